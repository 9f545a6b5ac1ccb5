-- DRAW
theorem dr_rng {gr : Int32} {n : Nat} : ∀ (k j : Nat) (x : Int64) (L : Int32 → Int32) (b : Int32), 0 ≤ b.toInt → b.toInt + (k : Int) ≤ 1000 → 0 ≤ (drA gr n k j x L b).toInt
  | 0, _, _, _, _, h, _ => h
  | k + 1, j, x, L, b, h1, h2 => by
    rw [drA]
    have e1 : (b + 1).toInt = b.toInt + 1 := by
      rw [Int32.toInt_add, show (1 : Int32).toInt = 1 from rfl]
      apply Int.bmod_eq_of_le <;> omega
    refine dr_rng k _ _ _ _ ?_ ?_
    · split <;> omega
    · split <;> omega
theorem dr_ne {gr : Int32} {n K : Nat} {sd : Int64} (hK : K ≤ 40) : ¬ drA gr n K 0 sd id 0 = -1 := fun e => by
  have := dr_rng (gr := gr) (n := n) K 0 sd id 0 (by decide) (by show (0 : Int) + _ ≤ _; omega)
  rw [e] at this
  exact absurd this (by decide)
theorem LoR.drawn {x m w n z v : Nat} {t : TT} {I : MI} {R : MR} {J : MI} {B : MR} {la si : Nat → Nat} {X b : Int32} (h : LoR x m w n z t I R J B la si) (hv : v < n) (hb : ¬ b = -1) : LoR x m w n z t (up2 (up2 I 309 (la v) 1) 310 (la v) X) R (up2 (up2 J (m + 16) v b) (m + 17) v X) B la si := by
  obtain ⟨⟨h1, h2, h3⟩, ha, hl, h0⟩ := h
  refine ⟨⟨h1, by rw [up2n (by decide), up2n (by decide)]; exact h2, by rw [up2n (by decide), up2n (by decide)]; exact h3⟩, ha, fun i hi => ?_, fun i hi => by rw [up2n (by omega), up2n (by omega), up2n (by omega), up2n (by omega)]; exact h0 i hi⟩
  have g := hl i hi
  unfold LotR at g ⊢
  by_cases e : i = v
  · subst e
    rw [up2s, up2s, up2n (show 309 ≠ 310 by decide), up2s, up2n (show m + 16 ≠ m + 17 by omega), up2s, if_neg hb]
    simp (disch := omega) only [up2n]
    exact ⟨g.1, g.2.1, g.2.2.1, g.2.2.2.1, g.2.2.2.2.1, g.2.2.2.2.2.1, g.2.2.2.2.2.2.1, g.2.2.2.2.2.2.2.1, g.2.2.2.2.2.2.2.2.1, ⟨⟨fun q => absurd q (by decide), fun q => absurd q hb⟩, trivial⟩, g.2.2.2.2.2.2.2.2.2.2⟩
  · have el : la i ≠ la v := fun q => e (ha.2 i v hi hv q)
    simp (disch := omega) only [up2o]
    exact g
theorem CoR.ok {x m z co : Nat} {t : TT} {I : MI} {R : MR} {J : MI} {B : MR} {ct : Nat → Nat} {cc : Nat → List CC} (h : CoR x m z t I R J B co ct cc) (hm : m = x + 141) : CtOk x t I R J B cc := fun j hj => by
  rcases h.2.1 j hj with q | ⟨q1, q2, -, -, q5, q6, q7⟩
  · exact Or.inl q
  · have := q2.2.1
    exact Or.inr ⟨_, _, _, _, _, q1, q2.1, q5, q6, q7, ⟨by omega, by omega⟩, ⟨by omega, by omega⟩, ⟨by omega, by omega⟩, by omega, by omega⟩
set_option maxHeartbeats 4000000 in
theorem st_draw {l : Launch} {D : va_G} {A : Nat → Prop} {x m z : Nat} {t : TT} {I : MI} {R : MR} {J : MI} {B : MR} {lt k : Int32} {sd : Int64} (h : Ok x m z t I R J B) : Pr l D A 2 0 0 2 mX11_draw mX12_draw [.int lt, .int k, .long sd] x m z t I R J B := by
  have hO := h
  obtain ⟨n, w, la, si, L, ns, sv, tn, co, ct, cc, ⟨hm, hz⟩, hX, hM, hP, hN, hW, hL, hC, hS, hK, hU, hT, hQ⟩ := h
  obtain ⟨hn3, hn1, hn2⟩ := hL.1
  have h14 : ∀ i, i < n → J (m + 14) i = nI (cl (J (m + 14) i)) ∧ cl (J (m + 14) i) ≤ 5000 := fun i hi => (hL.2.2.1 i hi).2.2.2.2.2.1.2.cl (by decide)
  have h06 : ∀ i, i < n → J (m + 6) i = nI (cl (J (m + 6) i)) ∧ cl (J (m + 6) i) < 10 := fun i hi => by have := (hL.2.2.1 i hi).2.1.2.cl (by decide); exact ⟨this.1, by omega⟩
  have hdr : ∀ v, v < n → (drOk I (la v) v (cl (J (m + 14) v)) k ↔ drM J m v (cl (J (m + 14) v)) k) := fun v hv => by
    have g := hL.2.2.1 v hv
    unfold drOk drM
    rw [g.2.2.2.2.1.1, g.2.2.2.2.2.2.2.2.2.1.1]
  refine sem_X11_draw (la := la) (nf := fun i => cl (J (m + 14) i)) (mk := fun i => cl (J (m + 6) i)) (cc := cc) hX hn1 hn3 hN.1 (fun i hi => ⟨(hL.2.1.1 i hi).1, (hL.2.1.1 i hi).2.1, ⟨(hL.2.2.1 i hi).2.2.2.2.2.1.1.trans (h14 i hi).1, (h14 i hi).2⟩, (hL.2.2.1 i hi).2.1.1.trans (h06 i hi).1, (h06 i hi).2⟩) (hQ.ok hm) (fun ho => ?_) (fun v K hv ev eK hK40 hKn hok J2 c2 hJ2 => ?_)
  · exact ⟨_, rfl, hM.1, sem_X12_draw (nf := fun i => cl (J (m + 14) i)) (mk := fun i => cl (J (m + 6) i)) (cc := cc) hM hn2 hn3 (fun i hi => ⟨h14 i hi, h06 i hi⟩) hQ.2.2 (fun _ => ⟨rfl, hO⟩) (fun v K hv ev eK hK40 hKn hok => absurd ((hdr v hv).mpr hok) (ho v hv ev))⟩
  · have gv := hL.2.2.1 v hv
    have em : ∀ a, m ≤ a → J2 a = J a := fun a ha => hJ2 a (by omega) (by omega)
    have hCM : CtM m J2 cc := hQ.2.2.fr (em _ (by omega)) (em _ (by omega)) (em _ (by omega)) (em _ (by omega)) (em _ (by omega))
    refine ⟨_, rfl, hM.1, sem_X12_draw (nf := fun i => cl (J (m + 14) i)) (mk := fun i => cl (J (m + 6) i)) (cc := cc) hM hn2 hn3 (fun i hi => by rw [em _ (by omega), em _ (by omega)]; exact ⟨h14 i hi, h06 i hi⟩) hCM (fun ho => absurd ?_ (ho v hv ev)) (fun v' K' hv' ev' eK' hK40' hKn' hok' J3 hJ3 => ?_)⟩
    · have := (hdr v hv).mp hok
      unfold drM at this ⊢
      rw [em _ (by omega), em _ (by omega)]
      exact this
    · have evv : v' = v := nI_inj (ev'.symm.trans ev) (by omega) (by omega)
      have eKK : K' = K := nI_inj (eK'.symm.trans eK) (by omega) (by omega)
      subst evv
      subst eKK
      rw [em (m + 12) (by omega), em (m + 15) (by omega), em (m + 8) (by omega), gv.2.2.2.1, gv.2.2.2.2.2.2.2.2.1, gv.2.2.1.1]
      show _ ∧ Ok x m z t (up2 (up2 (up2 I 202 (x + 138) (nI c2)) 309 (la v') 1) 310 (la v') _) R (up2 (up2 J3 (m + 16) v' _) (m + 17) v' (J (m + 15) v' + suF _ _ _ (I 1200 m - J (m + 8) v') _)) B
      rw [hN.2.1]
      have hb := dr_ne (gr := J (m + 12) v') (n := cl (J (m + 14) v')) (sd := sd) hK40
      generalize drA (J (m + 12) v') (cl (J (m + 14) v')) K' 0 sd id 0 = b at hb
      refine ⟨rfl, ?_⟩
      generalize J (m + 15) v' + suF b (nI K') (nI (cl (J (m + 14) v'))) (nI w - J (m + 8) v') (cc (cl (J (m + 6) v'))) = X
      have g3 : ∀ a, ¬ (a = x + 139 ∨ a = x + 140 ∨ a = m + 32) → J3 a = J a := fun a ha => by rw [hJ3 a (by omega), hJ2 a (by omega) (by omega)]
      have hL1 : LoR x m w n z t (up2 I 202 (x + 138) (nI c2)) R J3 B la si := hL.fr (Nat.le_refl _) rfl rfl rfl (fun _ _ => rfl) (fun f a h1 h2 _ => up2n (by omega)) (fun _ _ => rfl) (fun a h1 h2 => g3 a (by omega))
      have hL2 := hL1.drawn (X := X) hv hb
      have n40 : ∀ a, t a ≠ (20, 40) → a ≠ x + 139 ∧ a ≠ x + 140 := fun a ha => ⟨fun e => ha (by rw [e]; exact hX.li.2.2.2.2.1), fun e => ha (by rw [e]; exact hX.li.2.2.2.2.2)⟩
      have gJ : ∀ a, ¬ (a = x + 139 ∨ a = x + 140 ∨ a = m + 32 ∨ a = m + 16 ∨ a = m + 17) → (up2 (up2 J3 (m + 16) v' b) (m + 17) v' X) a = J a := fun a ha => by rw [up2_ne _ _ _ (by omega), up2_ne _ _ _ (by omega), g3 a (by omega)]
      exact ⟨n, w, la, si, L, ns, sv, tn, co, ct, cc, ⟨hm, hz⟩, hX.mono (fun _ _ => rfl) (fun f a _ hf => by rcases hf with rfl | rfl | rfl <;> rfl) (fun _ _ _ _ => rfl) (fun _ _ _ _ _ _ => rfl), hM, hP.fr (fun _ _ => rfl) (fun _ _ => rfl) (fun _ _ => rfl) (fun a ha => gJ a (by omega)), hN.fr rfl rfl, hW.fr (Nat.le_refl _) rfl (fun _ _ => rfl) (gJ _ (by omega)) (fun a ha ht hb => gJ a (by have := n40 a (by rw [ht]; decide); omega)), hL2, hC.fr hL.2.1 rfl (fun _ _ => rfl) (fun _ _ => rfl) (gJ _ (by omega)), hS.fr (fun _ _ => rfl) (fun _ _ => rfl) (fun _ _ => rfl) (fun a h1 h2 => gJ a (by omega)), hK.fr rfl rfl rfl rfl rfl (gJ _ (by omega)) (gJ _ (by omega)), hU.fr (Nat.le_refl _) rfl rfl (fun _ _ => rfl) (fun _ _ => rfl) (fun _ _ => rfl) (fun _ _ => rfl) (fun _ _ => rfl) (gJ _ (by omega)) (gJ _ (by omega)) (gJ _ (by omega)), hT.fr rfl rfl (gJ _ (by omega)) (gJ _ (by omega)), hQ.fr hm (Nat.le_refl _) rfl (fun _ _ => rfl) (fun _ _ _ _ => rfl) (fun _ _ _ => rfl) rfl (fun a ha ht hb => gJ a (by have := n40 a (by rw [ht]; decide); omega)) (fun a h1 h2 => gJ a (by omega))⟩
