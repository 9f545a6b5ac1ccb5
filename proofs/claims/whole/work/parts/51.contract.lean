-- CONTRACT
theorem cp_spec {m j : Nat} (hj : j < 10) : ∀ (n i : Nat) (J : MI), i + n ≤ 34 → (∀ b, ¬ (m + 28 ≤ b ∧ b ≤ m + 31) → itr (cpM m j) i n J b = J b) ∧ (∀ b k, m + 28 ≤ b → b ≤ m + 31 → (k < 40 * j + i ∨ 40 * j + i + n ≤ k) → itr (cpM m j) i n J b k = J b k) ∧ ∀ b k, m + 28 ≤ b → b ≤ m + 31 → i ≤ k → k < i + n → itr (cpM m j) i n J b (40 * j + k) = J b (400 + k)
  | 0, i, J, _ => ⟨fun _ _ => rfl, fun _ _ _ _ _ => rfl, fun _ _ _ _ h1 h2 => by omega⟩
  | n + 1, i, J, h => by
    obtain ⟨h1, h2, h3⟩ := cp_spec hj n (i + 1) (cpM m j i J) (by omega)
    have c0 : ∀ b, ¬ (m + 28 ≤ b ∧ b ≤ m + 31) → cpM m j i J b = J b := fun b hb => by
      unfold cpM
      rw [up2_ne _ _ _ (by omega), up2_ne _ _ _ (by omega), up2_ne _ _ _ (by omega), up2_ne _ _ _ (by omega)]
    have c1 : ∀ b k, k ≠ 40 * j + i → cpM m j i J b k = J b k := fun b k hk => by
      unfold cpM
      rw [up2o hk, up2o hk, up2o hk, up2o hk]
    have c2 : ∀ b, m + 28 ≤ b → b ≤ m + 31 → cpM m j i J b (40 * j + i) = J b (400 + i) := fun b hb1 hb2 => by
      unfold cpM
      rcases (show b = m + 28 ∨ b = m + 29 ∨ b = m + 30 ∨ b = m + 31 by omega) with rfl | rfl | rfl | rfl <;> simp (disch := omega) only [up2n, up2s]
    refine ⟨fun b hb => ?_, fun b k hb1 hb2 hk => ?_, fun b k hb1 hb2 hk1 hk2 => ?_⟩
    · rw [itr, h1 b hb, c0 b hb]
    · rw [itr, h2 b k hb1 hb2 (by omega), c1 b k (by omega)]
    · rw [itr]
      by_cases e : k = i
      · subst e
        rw [h2 b _ hb1 hb2 (by omega), c2 b hb1 hb2]
      · rw [h3 b k hb1 hb2 (by omega) (by omega), c1 b _ (by omega)]
section CT
variable {x m z co : Nat} {t : TT} {I : MI} {R : MR} {J J2 : MI} {B : MR} {ct : Nat → Nat} {cc : Nat → List CC}
/-- the contract that was read goes to maker j -/
theorem CtM.put {j : Nat} {acc : List CC} (h : CtM m J2 cc) (hj : j < 10) (h4 : M4 J2 m acc) (hl : acc.length ≤ 34) (hs : ∀ c ∈ acc, isS c.2.1) : CtM m (up2 (itr (cpM m j) 0 acc.length J2) (m + 27) j (nI acc.length)) (va_up cc j acc) := fun i hi => by
  obtain ⟨g1, g2, g3⟩ := cp_spec (m := m) hj acc.length 0 J2 (by omega)
  by_cases e : i = j
  · subst e
    rw [va_up_self, up2s]
    refine ⟨rfl, hl, fun k c hc => ?_, hs⟩
    have hk : k < acc.length := (List.getElem?_eq_some_iff.mp hc).1
    rw [up2n (by omega), up2n (by omega), up2n (by omega), up2n (by omega), g3 _ k (by omega) (by omega) (by omega) (by omega), g3 _ k (by omega) (by omega) (by omega) (by omega), g3 _ k (by omega) (by omega) (by omega) (by omega), g3 _ k (by omega) (by omega) (by omega) (by omega)]
    exact h4 k c hc
  · obtain ⟨q1, q2, q3, q4⟩ := h i hi
    rw [va_up_ne _ _ e, up2o e, g1 (m + 27) (by omega)]
    refine ⟨q1, q2, fun k c hc => ?_, q4⟩
    have hk : k < (cc i).length := (List.getElem?_eq_some_iff.mp hc).1
    rw [up2n (by omega), up2n (by omega), up2n (by omega), up2n (by omega), g2 _ _ (by omega) (by omega) (by omega), g2 _ _ (by omega) (by omega) (by omega), g2 _ _ (by omega) (by omega) (by omega), g2 _ _ (by omega) (by omega) (by omega)]
    exact q3 k c hc
theorem apart.symm {a b : Nat} (h : apart a b) : apart b a := Or.symm h
/-- the old one becomes the spare -/
theorem CoR.swap {j old : Nat} {acc : List CC} {J3 : MI} (h : CoR x m z t I R J B co ct cc) (hj : j < 10) (hB : B (x + 132) j = some old) (hl : acc.length ≤ 34) (h4 : I 4 co = nI acc.length) (hh : CoHas J (co + 1) (co + 2) (co + 3) (co + 4) acc) (e3 : ∀ a, a < m ∨ m + 36 ≤ a → J3 a = J a) (hm : m = x + 141) (hM : CtM m J3 (va_up cc j acc)) : CoR x m z t I (up2 R 1109 x (some old)) J3 (up2 B (x + 132) j (some co)) old (va_up ct j co) (va_up cc j acc) := by
  obtain ⟨⟨h1, h2⟩, h3, -⟩ := h
  rcases id (h3 j hj) with ⟨q, -⟩ | ⟨q1, q2, q3, q4, -⟩
  · rw [hB] at q; cases q
  · have eo : old = ct j := Option.some.inj (hB.symm.trans q1)
    subst eo
    have eA : ∀ c, CoA x m z t R c → CoA x m z t (up2 R 1109 x (some (ct j))) c := fun c hc => hc.fr (Nat.le_refl _) (fun _ _ => rfl) (fun f hf => up2n (by omega))
    refine ⟨⟨up2s, eA _ q2⟩, fun i hi => ?_, hM⟩
    by_cases e : i = j
    · subst e
      rw [up2s, va_up_self, va_up_self]
      have hcr := h2.2.1
      refine Or.inr ⟨rfl, eA _ h2, q3.symm, fun k hk hne hb => ?_, h4, hl, hh.fr (e3 _ (by omega)) (e3 _ (by omega)) (e3 _ (by omega)) (e3 _ (by omega))⟩
      rw [va_up_ne _ _ hne]
      rw [up2o hne] at hb
      rcases h3 k hk with ⟨r, -⟩ | ⟨-, -, r3, -⟩
      · exact absurd r hb
      · exact r3.symm
    · rw [up2o e, va_up_ne _ _ e, va_up_ne _ _ e]
      rcases h3 i hi with r | ⟨r1, r2, r3, r4, r5, r6, r7⟩
      · exact Or.inl r
      · have hcr := r2.2.1
        refine Or.inr ⟨r1, eA _ r2, r4 j hj (fun q => e q.symm) (by rw [hB]; simp), fun k hk hne hb => ?_, r5, r6, r7.fr (e3 _ (by omega)) (e3 _ (by omega)) (e3 _ (by omega)) (e3 _ (by omega))⟩
        by_cases e2 : k = j
        · subst e2
          rw [va_up_self]
          exact r3
        · rw [va_up_ne _ _ e2]
          rw [up2o e2] at hb
          exact r4 k hk hne hb
/-- a new one becomes the spare -/
theorem CoR.fresh {j : Nat} {acc : List CC} {J3 : MI} {t3 : TT} {I3 : MI} {R3 : MR} (h : CoR x m z t I R J B co ct cc) (hm : m = x + 141) (hz : m + 36 ≤ z) (hj : j < 10) (hB : B (x + 132) j = none) (hl : acc.length ≤ 34) (h4 : I 4 co = nI acc.length) (hh : CoHas J (co + 1) (co + 2) (co + 3) (co + 4) acc) (e3 : ∀ a, a < z → a < m ∨ m + 36 ≤ a → J3 a = J a) (et : ∀ a, a < z → t3 a = t a) (eI : ∀ a, a < z → I3 4 a = I 4 a) (eR : ∀ f a, f < 4 → a < z → R3 f a = R f a) (hR : R3 1109 x = some z) (hn : CoSt t3 R3 z (z + 1) (z + 2) (z + 3) (z + 4)) (hM : CtM m J3 (va_up cc j acc)) : CoR x m (z + 5) t3 I3 R3 J3 (up2 B (x + 132) j (some co)) z (va_up ct j co) (va_up cc j acc) := by
  obtain ⟨⟨h1, h2⟩, h3, -⟩ := h
  have eA : ∀ c, CoA x m z t R c → CoA x m (z + 5) t3 R3 c := fun c hc => hc.fr (by omega) et (fun f hf => eR f _ hf (by have := hc.2.2; omega))
  refine ⟨⟨hR, hn, Or.inr hz, Nat.le_refl _⟩, fun i hi => ?_, hM⟩
  by_cases e : i = j
  · subst e
    rw [up2s, va_up_self, va_up_self]
    have hcr := h2.2.1
    have hcz := h2.2.2
    refine Or.inr ⟨rfl, eA _ h2, Or.inl hcz, fun k hk hne hb => ?_, by rw [eI _ (by omega)]; exact h4, hl, hh.fr (e3 _ (by omega) (by omega)) (e3 _ (by omega) (by omega)) (e3 _ (by omega) (by omega)) (e3 _ (by omega) (by omega))⟩
    rw [va_up_ne _ _ hne]
    rw [up2o hne] at hb
    rcases h3 k hk with ⟨r, -⟩ | ⟨-, -, r3, -⟩
    · exact absurd r hb
    · exact r3.symm
  · rw [up2o e, va_up_ne _ _ e, va_up_ne _ _ e]
    rcases h3 i hi with r | ⟨r1, r2, r3, r4, r5, r6, r7⟩
    · exact Or.inl r
    · have hcr := r2.2.1
      have hcz := r2.2.2
      refine Or.inr ⟨r1, eA _ r2, Or.inl hcz, fun k hk hne hb => ?_, by rw [eI _ (by omega)]; exact r5, r6, r7.fr (e3 _ (by omega) (by omega)) (e3 _ (by omega) (by omega)) (e3 _ (by omega) (by omega)) (e3 _ (by omega) (by omega))⟩
      by_cases e2 : k = j
      · subst e2
        rw [va_up_self]
        exact r3
      · rw [va_up_ne _ _ e2]
        rw [up2o e2] at hb
        exact r4 k hk hne hb
end CT
set_option maxHeartbeats 4000000 in
theorem st_contract {l : Launch} {D : va_G} {A : Nat → Prop} {x m z : Nat} {t : TT} {I : MI} {R : MR} {J : MI} {B : MR} {a : Int32} (h : Ok x m z t I R J B) (hA : ∀ q, z ≤ q → A q) : Pr l D A 6 5 141 4 mX11_contract mX12_contract [.int a] x m z t I R J B := by
  have hO := h
  obtain ⟨n, w, la, si, L, ns, sv, tn, co, ct, cc, ⟨hm, hz⟩, hX, hM, hP, hN, hW, hL, hC, hS, hK, hU, hT, hQ⟩ := h
  obtain ⟨⟨hsp, hca⟩, -, -⟩ := id hQ
  have hcr := hca.2.1
  have hcz := hca.2.2
  have n34 : ∀ a, (co < a ∧ a ≤ co + 4) → ¬ t a = (20, 32) := fun a ha ht => by
    have := hca.t34 (k := a - co) (by omega) (by omega)
    rw [show co + (a - co) = a by omega, ht] at this
    cases this
  have hMn : ∀ J1 : MI, (∀ b, b ≠ co + 1 → b ≠ co + 2 → b ≠ co + 3 → b ≠ co + 4 → J1 b = J b) → J1 (m + 26) = J (x + 130) := fun J1 h1 => by rw [h1 _ (by omega) (by omega) (by omega) (by omega)]; exact hT.2.2.2.symm
  refine sem_X11_contract hX hT.1 hT.2.2.1 hsp hca.1 hca.dis ⟨by omega, by omega, by omega, by omega⟩ (by omega) hA (fun ho => ?_) (fun hok hnn J1 e hJ1 => ?_) (fun j old hj ej hnn hB J1 e hJ1 hh => ?_) (fun j hj ej hnn hB J1 e hJ1 hh => ?_)
  · exact ⟨_, rfl, hM.1, sem_X12_contract hM hT.2.1 hT.2.2.1 (fun _ => ⟨rfl, hO⟩) (fun hv => absurd hv ho) (fun j hj ej => absurd (in_rng (b := 9) hj ej rfl) ho)⟩
  · refine ⟨_, rfl, hM.1, sem_X12_contract hM hT.2.1 hT.2.2.1 (fun ho => absurd hok ho) (fun _ _ J2 e2 hF => ⟨rfl, ?_⟩) (fun j hj ej hn2 => absurd (by rw [rd_r.1, ← hMn J1 hJ1]; exact hn2) hnn)⟩
    have gJ : ∀ a, ¬ (co < a ∧ a ≤ co + 4) → ¬ (m + 28 ≤ a ∧ a ≤ m + 31) → J2 a = J a := fun a h1 h2 => by
        rw [← hJ1 a (by omega) (by omega) (by omega) (by omega)]
        exact funext fun i => hF a i (fun q => by omega)
    exact ⟨n, w, la, si, L, ns, sv, tn, co, ct, cc, ⟨hm, hz⟩, hX.mono (fun _ _ => rfl) (fun f a _ hf => by rcases hf with rfl | rfl | rfl <;> rfl) (fun _ _ _ _ => rfl) (fun _ _ _ _ _ _ => rfl), hM, hP.fr (fun _ _ => rfl) (fun _ _ => rfl) (fun _ _ => rfl) (fun a ha => gJ a (by omega) (by omega)), hN.fr rfl rfl, hW.fr (Nat.le_refl _) rfl (fun _ _ => rfl) (gJ _ (by omega) (by omega)) (fun a ha ht hb => gJ a (fun q => n34 a q ht) (by omega)), hL.fr (Nat.le_refl _) rfl rfl rfl (fun _ _ => rfl) (fun f a h1 h2 _ => by simp (disch := omega) only [up2n]) (fun _ _ => rfl) (fun a h1 h2 => gJ a (by omega) (by omega)), hC.fr hL.2.1 rfl (fun _ _ => rfl) (fun _ _ => rfl) (gJ _ (by omega) (by omega)), hS.fr (fun _ _ => rfl) (fun _ _ => rfl) (fun _ _ => rfl) (fun a h1 h2 => gJ a (by omega) (by omega)), hK.fr rfl rfl rfl rfl rfl (gJ _ (by omega) (by omega)) (gJ _ (by omega) (by omega)), hU.fr (Nat.le_refl _) rfl rfl (fun _ _ => rfl) (fun _ _ => rfl) (fun _ _ => rfl) (fun _ _ => rfl) (fun _ _ => rfl) (gJ _ (by omega) (by omega)) (gJ _ (by omega) (by omega)) (gJ _ (by omega) (by omega)), hT.fr rfl rfl (gJ _ (by omega) (by omega)) (gJ _ (by omega) (by omega)), hQ.sp hm (fun a ha => by rw [up2n (by decide), up2n (by decide), up2n (by decide), up2o ha]) (fun a h1 h2 => gJ a h1 (by omega)) (gJ _ (by omega) (by omega)) (fun b i h1 h2 h3 => by rw [hF b i (fun _ => h3), hJ1 b (by omega) (by omega) (by omega) (by omega)])⟩
  · refine ⟨_, rfl, hM.1, sem_X12_contract hM hT.2.1 hT.2.2.1 (fun ho => absurd (in_rng (b := 9) hj ej rfl) ho) (fun _ hn2 => absurd (by rw [hMn J1 hJ1, ← rd_r.1]; exact hnn) hn2) (fun j' hj' ej' hn2 J2 e2 hF h4 => ⟨rfl, ?_⟩)⟩
    have ejj : j' = j := nI_inj (ej'.symm.trans ej) (by omega) (by omega)
    subst ejj
    have gJ : ∀ a, ¬ (co < a ∧ a ≤ co + 4) → ¬ (m + 28 ≤ a ∧ a ≤ m + 31) → J2 a = J a := fun a h1 h2 => by
      rw [← hJ1 a (by omega) (by omega) (by omega) (by omega)]
      exact funext fun i => hF a i (fun q => by omega)
    rw [hMn J1 hJ1] at hn2 h4 ⊢
    have hl34 : (rdM (J (x + 130)) tn).2.length ≤ 34 := rm_len
    rw [rd_r.2 hn2] at hh ⊢
    have hss : ∀ c ∈ (rdM (J (x + 130)) tn).2, isS c.2.1 := rm_s
    generalize (rdM (J (x + 130)) tn).2 = acc at hh h4 hl34 hss ⊢
    have hQ2 : CoR x m z t (up2 (up2 (up2 (up2 I 4 co (nI acc.length)) 601 (x + 131) (nI e)) 1238 m (nI acc.length)) 1232 m (nI e2)) R J2 B co ct cc := hQ.sp hm (fun a ha => by rw [up2n (by decide), up2n (by decide), up2n (by decide), up2o ha]) (fun a h1 h2 => gJ a h1 (by omega)) (gJ _ (by omega) (by omega)) (fun b i h1 h2 h3 => by rw [hF b i (fun _ => h3), hJ1 b (by omega) (by omega) (by omega) (by omega)])
    have hM3 := hQ2.2.2.put hj h4 hl34 hss
    have gc := cp_spec (m := m) hj acc.length 0 J2 (by omega)
    generalize hJ3 : up2 (itr (cpM m j') 0 acc.length J2) (m + 27) j' (nI acc.length) = J3 at hM3
    have g3 : ∀ a, ¬ (m + 27 ≤ a ∧ a ≤ m + 31) → J3 a = J2 a := fun a ha => by rw [← hJ3, up2_ne _ _ _ (by omega), gc.1 a (by omega)]
    have gJ3 : ∀ a, ¬ (co < a ∧ a ≤ co + 4) → ¬ (m + 27 ≤ a ∧ a ≤ m + 31) → J3 a = J a := fun a h1 h2 => by rw [g3 a h2, gJ a h1 (by omega)]
    have hQ3 := hQ2.swap hj hB hl34 (by rw [up2n (by decide), up2n (by decide), up2n (by decide), up2s]) (hh.fr (funext fun i => hF _ i (fun q => by omega)) (funext fun i => hF _ i (fun q => by omega)) (funext fun i => hF _ i (fun q => by omega)) (funext fun i => hF _ i (fun q => by omega))) (fun a ha => g3 a (by omega)) hm hM3
    have hT2 : TpR x m 0 (up2 (up2 (up2 (up2 (up2 (up2 I 4 co (nI acc.length)) 601 (x + 131) (nI e)) 1001 (x + 129) 0) 1238 m (nI acc.length)) 1232 m (nI e2)) 1231 m 0) J3 := ⟨by rw [up2n (by decide), up2n (by decide), up2n (by decide), up2s]; rfl, by rw [up2s]; rfl, by omega, by rw [gJ3 _ (by omega) (by omega), gJ3 _ (by omega) (by omega)]; exact hT.2.2.2⟩
    have hQ3 : CoR x m z t (up2 (up2 (up2 (up2 (up2 (up2 I 4 co (nI acc.length)) 601 (x + 131) (nI e)) 1001 (x + 129) 0) 1238 m (nI acc.length)) 1232 m (nI e2)) 1231 m 0) (up2 R 1109 x (some old)) J3 (up2 B (x + 132) j' (some co)) old (va_up ct j' co) (va_up cc j' acc) := hQ3.fr hm (Nat.le_refl _) rfl (fun _ _ => rfl) (fun _ _ _ _ => rfl) (fun _ _ _ => rfl) rfl (fun _ _ _ _ => rfl) (fun _ _ _ => rfl)
    exact ⟨n, w, la, si, L, ns, sv, 0, old, va_up ct j' co, va_up cc j' acc, ⟨hm, hz⟩, hX.mono (fun _ _ => rfl) (fun f a _ hf => by rcases hf with rfl | rfl | rfl <;> rfl) (fun f a _ hf => up2n (fun e => by subst e; cases hf)) (fun a i _ _ _ h132 => by rw [up2_ne _ _ _ h132]), hM.mono (fun _ _ _ => rfl) (fun f hf => up2n (by omega)), hP.fr (fun _ _ => rfl) (fun _ _ => rfl) (fun _ _ => rfl) (fun a ha => gJ3 a (by omega) (by omega)), hN.fr rfl rfl, hW.fr (Nat.le_refl _) (up2_ne _ _ _ (by omega)) (fun _ _ => rfl) (gJ3 _ (by omega) (by omega)) (fun a ha ht hb => gJ3 a (fun q => n34 a q ht) (by omega)), hL.fr (Nat.le_refl _) rfl rfl (up2_ne _ _ _ (by omega)) (fun _ _ => rfl) (fun f a h1 h2 _ => by simp (disch := omega) only [up2n]) (fun _ _ => rfl) (fun a h1 h2 => gJ3 a (by omega) (by omega)), hC.fr hL.2.1 rfl (fun _ _ => rfl) (fun _ _ => rfl) (gJ3 _ (by omega) (by omega)), hS.fr (fun _ _ => rfl) (fun _ _ => rfl) (fun _ _ => rfl) (fun a h1 h2 => gJ3 a (by omega) (by omega)), hK.fr rfl rfl rfl rfl rfl (gJ3 _ (by omega) (by omega)) (gJ3 _ (by omega) (by omega)), hU.fr (Nat.le_refl _) rfl rfl (fun _ _ => rfl) (fun _ _ => rfl) (fun _ _ => rfl) (fun _ _ => rfl) (fun _ _ => rfl) (gJ3 _ (by omega) (by omega)) (gJ3 _ (by omega) (by omega)) (gJ3 _ (by omega) (by omega)), hT2, hQ3⟩
  · generalize ht3 : va_up (va_up (va_up (va_up (va_up t z (1, 0)) (z + 1) (20, 34)) (z + 1 + 1) (20, 34)) (z + 1 + 2) (20, 34)) (z + 1 + 3) (20, 34) = t3
    generalize hR3 : up2 (up2 (up2 (up2 (up2 (zR R z) 0 z (some (z + 1))) 1 z (some (z + 1 + 1))) 2 z (some (z + 1 + 2))) 3 z (some (z + 1 + 3))) 1109 x (some z) = R3
    generalize hJ1x : va_up (va_up (va_up (va_up J1 (z + 1) (fun _ => 0)) (z + 1 + 1) (fun _ => 0)) (z + 1 + 2) (fun _ => 0)) (z + 1 + 3) (fun _ => 0) = J1x
    have gt : ∀ a, a < z → t3 a = t a := fun a ha => by rw [← ht3]; simp (disch := omega) only [va_up_ne]
    have gR : ∀ f a, a < z → f ≠ 1109 → R3 f a = R f a := fun f a ha hf => by rw [← hR3, up2n hf, up2o (by omega), up2o (by omega), up2o (by omega), up2o (by omega), zR_ne _ _ (by omega)]
    have g1x : ∀ a, a < z → J1x a = J1 a := fun a ha => by rw [← hJ1x]; simp (disch := omega) only [va_up_ne]
    have hM3x : MSt m t3 R3 := hM.mono (fun a h1 h2 => gt a (by omega)) (fun f hf => gR f m (by omega) (by omega))
    have hn3 : CoSt t3 R3 z (z + 1) (z + 2) (z + 3) (z + 4) := by
      refine ⟨?_, ⟨?_, ?_⟩, ⟨?_, ?_⟩, ⟨?_, ?_⟩, ?_, ?_⟩ <;> first | (rw [← ht3]; simp [va_up, Nat.add_assoc]; done) | (rw [← hR3]; simp [up2, va_up, Nat.add_assoc]; done)
    have e26 : J1x (m + 26) = J (x + 130) := by rw [g1x _ (by omega)]; exact hMn J1 hJ1
    have e31 : (up2 (zI (up2 (up2 I 4 co (nI (rdA (J (x + 130)) tn).2.length)) 601 (x + 131) (nI e)) z) 1001 (x + 129) 0) 1231 m = nI tn := by rw [up2n (by decide), zI_ne _ _ (by omega), up2n (by decide), up2n (by decide)]; exact hT.2.1
    refine ⟨_, rfl, hM3x.1, sem_X12_contract hM3x e31 hT.2.2.1 (fun ho => absurd (in_rng (b := 9) hj ej rfl) ho) (fun _ hn2 => absurd (by rw [e26, ← rd_r.1]; exact hnn) hn2) (fun j' hj' ej' hn2 J2 e2 hF h4 => ⟨rfl, ?_⟩)⟩
    have ejj : j' = j := nI_inj (ej'.symm.trans ej) (by omega) (by omega)
    subst ejj
    rw [e26] at hn2 h4 ⊢
    have hl34 : (rdM (J (x + 130)) tn).2.length ≤ 34 := rm_len
    rw [rd_r.2 hn2] at hh ⊢
    have hss : ∀ c ∈ (rdM (J (x + 130)) tn).2, isS c.2.1 := rm_s
    generalize (rdM (J (x + 130)) tn).2 = acc at hh h4 hl34 hss ⊢
    have gJ : ∀ a, a < z → ¬ (co < a ∧ a ≤ co + 4) → ¬ (m + 28 ≤ a ∧ a ≤ m + 31) → J2 a = J a := fun a h0 h1 h2 => by
      rw [← hJ1 a (by omega) (by omega) (by omega) (by omega), ← g1x a h0]
      exact funext fun i => hF a i (fun q => by omega)
    have hCM : CtM m J2 cc := hQ.2.2.lo (gJ _ (by omega) (by omega) (by omega)) (fun b i h1 h2 h3 => by rw [hF b i (fun _ => h3), g1x b (by omega), hJ1 b (by omega) (by omega) (by omega) (by omega)])
    have hM3 := hCM.put hj h4 hl34 hss
    have gc := cp_spec (m := m) hj acc.length 0 J2 (by omega)
    generalize hJ3 : up2 (itr (cpM m j') 0 acc.length J2) (m + 27) j' (nI acc.length) = J3 at hM3
    have g3 : ∀ a, ¬ (m + 27 ≤ a ∧ a ≤ m + 31) → J3 a = J2 a := fun a ha => by rw [← hJ3, up2_ne _ _ _ (by omega), gc.1 a (by omega)]
    have gJ3 : ∀ a, a < z → ¬ (co < a ∧ a ≤ co + 4) → ¬ (m + 27 ≤ a ∧ a ≤ m + 31) → J3 a = J a := fun a h0 h1 h2 => by rw [g3 a h2, gJ a h0 h1 (by omega)]
    have hQ1 : CoR x m z t (up2 I 4 co (nI acc.length)) R J1 B co ct cc := hQ.sp hm (fun a ha => up2o ha) (fun a h1 h2 => hJ1 a (by omega) (by omega) (by omega) (by omega)) (hJ1 _ (by omega) (by omega) (by omega) (by omega)) (fun b i h1 h2 h3 => by rw [hJ1 b (by omega) (by omega) (by omega) (by omega)])
    generalize hIF : up2 (up2 (up2 (up2 (zI (up2 (up2 I 4 co (nI acc.length)) 601 (x + 131) (nI e)) z) 1001 (x + 129) 0) 1238 m (nI acc.length)) 1232 m (nI e2)) 1231 m 0 = IF
    have gI : ∀ f a, a < z → (!(f == 4 || f == 601 || f == 1001 || f == 1238 || f == 1232 || f == 1231)) = true → IF f a = I f a := fun f a ha hf => by
      simp only [Bool.not_eq_true', Bool.or_eq_false_iff, beq_eq_false_iff_ne] at hf
      rw [← hIF, up2n (by omega), up2n (by omega), up2n (by omega), up2n (by omega), zI_ne _ _ (by omega), up2n (by omega), up2n (by omega)]
    have hQ3 : CoR x m (z + 1 + 4) t3 IF R3 J3 (up2 B (x + 132) j' (some co)) z (va_up ct j' co) (va_up cc j' acc) := hQ1.fresh hm hz hj hB hl34 up2s hh (fun a h0 ha => by rw [g3 a (by omega)]; exact (funext fun i => hF a i (fun q => by omega)).trans (g1x a h0)) gt (fun a ha => by rw [← hIF, up2n (by decide), up2n (by decide), up2n (by decide), up2n (by decide), zI_ne _ _ (by omega), up2n (by decide)]) (fun f a hf ha => gR f a ha (by omega)) (by rw [← hR3, up2s]) hn3 hM3
    have hT2 : TpR x m 0 IF J3 := ⟨by rw [← hIF, up2n (by decide), up2n (by decide), up2n (by decide), up2s]; rfl, by rw [← hIF, up2s]; rfl, by omega, by rw [gJ3 _ (by omega) (by omega) (by omega), gJ3 _ (by omega) (by omega) (by omega)]; exact hT.2.2.2⟩
    exact ⟨n, w, la, si, L, ns, sv, 0, z, va_up ct j' co, va_up cc j' acc, ⟨hm, by omega⟩, hX.mono (fun a ha => gt a (by omega)) (fun f a ha hf => by rcases hf with rfl | rfl | rfl <;> exact gI _ a (by omega) (by decide)) (fun f a ha hf => gR f a (by omega) (fun e => by subst e; cases hf)) (fun a i _ _ _ h132 => by rw [up2_ne _ _ _ h132]), hM3x, hP.fr (fun a ha => gI 501 a (by omega) (by decide)) (fun a ha => gI 502 a (by omega) (by decide)) (fun a ha => gI 102 a (by omega) (by decide)) (fun a ha => gJ3 a (by omega) (by omega) (by omega)), hN.fr (gI 1111 x (by omega) (by decide)) (gI 1200 m (by omega) (by decide)), hW.fr (by omega) (up2_ne _ _ _ (by omega)) gt (gJ3 _ (by omega) (by omega) (by omega)) (fun a ha ht hb => gJ3 a ha (fun q => n34 a q ht) (by omega)), hL.fr (by omega) (gI 401 _ (by omega) (by decide)) (gI 1201 m (by omega) (by decide)) (up2_ne _ _ _ (by omega)) gt (fun f a h1 h2 ha => gI f a ha (by simp only [Bool.not_eq_true', Bool.or_eq_false_iff, beq_eq_false_iff_ne]; omega)) (fun a ha => gR 300 a ha (by decide)) (fun a h1 h2 => gJ3 a (by omega) (by omega) (by omega)), hC.fr hL.2.1 (gR 402 _ (by omega) (by decide)) gt (fun a ha => gR 313 a ha (by decide)) (gJ3 _ (by omega) (by omega) (by omega)), hS.fr (fun s hs => gI 900 _ (by have := xSo_ltx (x := x) hs; omega) (by decide)) (fun s hs => gI 706 _ (by have := xSo_ltx (x := x) hs; omega) (by decide)) (fun s hs => gI 705 _ (by have := xSo_ltx (x := x) hs; omega) (by decide)) (fun a h1 h2 => gJ3 a (by omega) (by omega) (by omega)), hK.fr (gI 1112 x (by omega) (by decide)) (gI 1113 x (by omega) (by decide)) (gI 1114 x (by omega) (by decide)) (gI 1202 m (by omega) (by decide)) (gI 1203 m (by omega) (by decide)) (gJ3 _ (by omega) (by omega) (by omega)) (gJ3 _ (by omega) (by omega) (by omega)), hU.fr (by omega) (gI 1115 x (by omega) (by decide)) (gI 1204 m (by omega) (by decide)) (fun s hs => gR 707 _ (by have := xSo_ltx (x := x) hs; omega) (by decide)) gt (fun a ha => gR 801 a ha (by decide)) (fun a ha => gI 800 a ha (by decide)) (fun a ha => gI 802 a ha (by decide)) (gJ3 _ (by omega) (by omega) (by omega)) (gJ3 _ (by omega) (by omega) (by omega)) (gJ3 _ (by omega) (by omega) (by omega)), hT2, hQ3⟩
