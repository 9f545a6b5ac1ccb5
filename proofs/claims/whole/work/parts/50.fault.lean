-- FAULT: both readers say the same
theorem sk_dg {f : Nat → Int32} {n a : Nat} (h : dgt f n a) : sk f n a = a := sk_f (fun q => by
  have h1 := h.1
  rw [byA, if_pos q.1, q.2] at h1
  exact absurd h1 (by decide))
theorem dg_ne {c d : Int32} (h : 48 ≤ c ∧ c ≤ 57) (hd : ¬ (48 ≤ d ∧ d ≤ 57)) : ¬ c = d := fun e => hd (e ▸ h)
/-- what the one reads of a clause, and what the other reads -/
def clR (f : Nat → Int32) (n : Nat) (r s : Nat × Option CC) : Prop := r = s ∨ ∃ e c, r = (e, some c) ∧ s = (e, none) ∧ dgt f n e
theorem clD_r {f : Nat → Int32} {n a : Nat} {l s v : Int32} : clR f n (clD f n l s v a) (clDM f n l s v a) := by
  unfold clD clDM nuM
  by_cases h1 : (dgA f n 5 (a6A f n a) 0).1 = a6A f n a
  · rw [if_pos h1, if_pos h1, if_pos rfl]
    exact Or.inl (by rw [h1])
  · rw [if_neg h1, if_neg h1]
    by_cases h2 : dgt f n (dgA f n 5 (a6A f n a) 0).1
    · rw [if_pos h2, if_pos rfl]
      exact Or.inr ⟨_, _, rfl, rfl, h2⟩
    · rw [if_neg h2, if_neg dg5_ne]
      exact Or.inl rfl
theorem clC_r {f : Nat → Int32} {n a : Nat} {l s : Int32} : clR f n (clC f n l s a) (clCM f n l s a) := by
  unfold clC clCM nuM
  by_cases h1 : (dgA f n 5 (sk f n a) 0).1 = sk f n a
  · rw [if_pos h1, if_pos h1, if_pos rfl]
    exact Or.inl (by rw [h1])
  · rw [if_neg h1, if_neg h1]
    by_cases h2 : dgt f n (dgA f n 5 (sk f n a) 0).1
    · rw [if_pos h2, if_pos rfl, sk_dg h2, if_neg (dg_ne h2 (by decide))]
      exact Or.inl rfl
    · rw [if_neg h2, if_neg dg5_ne]
      split
      · exact clD_r
      · exact Or.inl rfl
theorem clA_r {f : Nat → Int32} {n a : Nat} : clR f n (clA f n a) (clAM f n a) := by
  unfold clA clAM clB clBM
  split
  · split
    · exact clC_r
    · exact Or.inl rfl
  · exact Or.inl rfl
theorem clAM_s {f : Nat → Int32} {n a e : Nat} {c : CC} (h : clAM f n a = (e, some c)) : isS c.2.1 := by
  unfold clAM clBM clCM clDM at h
  split at h
  · split at h
    · rename_i hs
      split at h
      · cases h
      · split at h
        · split at h
          · cases h
          · cases h
            exact hs
        · cases h
    · cases h
  · cases h
theorem pr_r {f : Nat → Int32} {n : Nat} : ∀ (k a : Nat) (acc : List CC), (prA f n k a acc).1 = (prM f n k a acc).1 ∧ ((prM f n k a acc).1 = none → (prA f n k a acc).2 = (prM f n k a acc).2)
  | 0, _, _ => ⟨rfl, fun _ => rfl⟩
  | k + 1, a, acc => by
    rcases clA_r (f := f) (n := n) (a := a) with h | ⟨e, c, h1, h2, h3⟩
    · rw [prA, prM, h]
      rcases clAM f n a with ⟨e, _ | c⟩
      · exact ⟨rfl, fun _ => rfl⟩
      · show (if byA f n (sk f n e) = -1 then (none, acc ++ [c]) else if byA f n (sk f n e) = 59 then prA f n k (sk f n e + 1) (acc ++ [c]) else (some (sk f n e), acc ++ [c]) : Option Nat × List CC).1 = (if byA f n (sk f n e) = -1 then (none, acc ++ [c]) else if byA f n (sk f n e) = 59 then prM f n k (sk f n e + 1) (acc ++ [c]) else (some (sk f n e), acc ++ [c]) : Option Nat × List CC).1 ∧ ((if byA f n (sk f n e) = -1 then (none, acc ++ [c]) else if byA f n (sk f n e) = 59 then prM f n k (sk f n e + 1) (acc ++ [c]) else (some (sk f n e), acc ++ [c]) : Option Nat × List CC).1 = none → (if byA f n (sk f n e) = -1 then (none, acc ++ [c]) else if byA f n (sk f n e) = 59 then prA f n k (sk f n e + 1) (acc ++ [c]) else (some (sk f n e), acc ++ [c]) : Option Nat × List CC).2 = (if byA f n (sk f n e) = -1 then (none, acc ++ [c]) else if byA f n (sk f n e) = 59 then prM f n k (sk f n e + 1) (acc ++ [c]) else (some (sk f n e), acc ++ [c]) : Option Nat × List CC).2)
        by_cases g1 : byA f n (sk f n e) = -1
        · rw [if_pos g1, if_pos g1]; exact ⟨rfl, fun _ => rfl⟩
        · rw [if_neg g1, if_neg g1]
          by_cases g2 : byA f n (sk f n e) = 59
          · rw [if_pos g2, if_pos g2]; exact pr_r k _ _
          · rw [if_neg g2, if_neg g2]; exact ⟨rfl, fun _ => rfl⟩
    · rw [prA, prM, h1, h2]
      show (if byA f n (sk f n e) = -1 then (none, acc ++ [c]) else if byA f n (sk f n e) = 59 then prA f n k (sk f n e + 1) (acc ++ [c]) else (some (sk f n e), acc ++ [c]) : Option Nat × List CC).1 = some e ∧ ((some e : Option Nat) = none → _)
      rw [sk_dg h3, if_neg (dg_ne h3 (by decide)), if_neg (dg_ne h3 (by decide))]
      exact ⟨rfl, fun q => by cases q⟩
theorem rd_r {f : Nat → Int32} {n : Nat} : (rdA f n).1 = (rdM f n).1 ∧ ((rdM f n).1 = none → (rdA f n).2 = (rdM f n).2) := by
  unfold rdA rdM
  split
  · exact ⟨rfl, fun _ => rfl⟩
  · exact pr_r _ _ _
theorem pm_s {f : Nat → Int32} {n : Nat} : ∀ (k a : Nat) (acc : List CC), (∀ c ∈ acc, isS c.2.1) → ∀ c ∈ (prM f n k a acc).2, isS c.2.1
  | 0, _, _, h => h
  | k + 1, a, acc, h => by
    rw [prM]
    generalize hq : clAM f n a = r
    rcases r with ⟨e, _ | c⟩
    · exact h
    · have h2 : ∀ c' ∈ acc ++ [c], isS c'.2.1 := fun c' hc' => by
        rcases List.mem_append.mp hc' with q | q
        · exact h c' q
        · rw [List.mem_singleton.mp q]; exact clAM_s hq
      show ∀ c' ∈ (if byA f n (sk f n e) = -1 then (none, acc ++ [c]) else if byA f n (sk f n e) = 59 then prM f n k (sk f n e + 1) (acc ++ [c]) else (some (sk f n e), acc ++ [c]) : Option Nat × List CC).2, isS c'.2.1
      split
      · exact h2
      · split
        · exact pm_s k _ _ h2
        · exact h2
theorem rm_s {f : Nat → Int32} {n : Nat} : ∀ c ∈ (rdM f n).2, isS c.2.1 := by
  unfold rdM
  split
  · intro c hc; cases hc
  · exact pm_s _ _ _ (fun c hc => by cases hc)
section SP
variable {x m z co : Nat} {t : TT} {I I' : MI} {R : MR} {J J' : MI} {B : MR} {ct : Nat → Nat} {cc : Nat → List CC}
theorem CtM.lo (h : CtM m J cc) (e0 : J' (m + 27) = J (m + 27)) (e1 : ∀ b i, m + 28 ≤ b → b ≤ m + 31 → i < 400 → J' b i = J b i) : CtM m J' cc := fun j hj => by
  obtain ⟨h1, h2, h3, h4⟩ := h j hj
  refine ⟨by rw [e0]; exact h1, h2, fun i c hc => ?_, h4⟩
  have hi : i < (cc j).length := (List.getElem?_eq_some_iff.mp hc).1
  rw [e1 (m + 28) _ (by omega) (by omega) (by omega), e1 (m + 29) _ (by omega) (by omega) (by omega), e1 (m + 30) _ (by omega) (by omega) (by omega), e1 (m + 31) _ (by omega) (by omega) (by omega)]
  exact h3 i c hc
/-- the spare contract may be written -/
theorem CoR.sp (h : CoR x m z t I R J B co ct cc) (hm : m = x + 141) (e4 : ∀ a, a ≠ co → I' 4 a = I 4 a) (eJ : ∀ a, ¬ (co < a ∧ a ≤ co + 4) → ¬ (m ≤ a ∧ a < m + 36) → J' a = J a) (e0 : J' (m + 27) = J (m + 27)) (e1 : ∀ b i, m + 28 ≤ b → b ≤ m + 31 → i < 400 → J' b i = J b i) : CoR x m z t I' R J' B co ct cc := by
  obtain ⟨h1, h3, h4⟩ := h
  refine ⟨h1, fun j hj => ?_, h4.lo e0 e1⟩
  rcases h3 j hj with q | ⟨q1, q2, q3, q4, q5, q6, q7⟩
  · exact Or.inl q
  · have hzz := q2.2.2
    have hq := q2.2.1
    unfold apart at q3
    exact Or.inr ⟨q1, q2, q3, q4, by rw [e4 _ (by omega)]; exact q5, q6, q7.fr (eJ _ (by omega) (by omega)) (eJ _ (by omega) (by omega)) (eJ _ (by omega) (by omega)) (eJ _ (by omega) (by omega))⟩
theorem CoA.dis {c : Nat} (h : CoA x m z t R c) : Dis4 (c + 1) (c + 2) (c + 3) (c + 4) := by unfold Dis4; omega
end SP
theorem st_fault {l : Launch} {D : va_G} {A : Nat → Prop} {x m z : Nat} {t : TT} {I : MI} {R : MR} {J : MI} {B : MR} (h : Ok x m z t I R J B) : Pr l D A 6 0 0 3 mX11_fault mX12_fault [] x m z t I R J B := by
  have hO := h
  obtain ⟨n, w, la, si, L, ns, sv, tn, co, ct, cc, ⟨hm, hz⟩, hX, hM, hP, hN, hW, hL, hC, hS, hK, hU, hT, hQ⟩ := h
  obtain ⟨⟨hsp, hca⟩, -, -⟩ := id hQ
  have hcr := hca.2.1
  have hcz := hca.2.2
  have n34 : ∀ a, (co < a ∧ a ≤ co + 4) → ¬ t a = (20, 32) := fun a ha ht => by
    have := hca.t34 (k := a - co) (by omega) (by omega)
    rw [show co + (a - co) = a by omega, ht] at this
    cases this
  have hMn : ∀ J1 : MI, (∀ b, b ≠ co + 1 → b ≠ co + 2 → b ≠ co + 3 → b ≠ co + 4 → J1 b = J b) → J1 (m + 26) = J (x + 130) := fun J1 h1 => by rw [h1 _ (by omega) (by omega) (by omega) (by omega)]; exact hT.2.2.2.symm
  refine sem_X11_fault hX hT.1 hT.2.2.1 hsp hca.1 hca.dis ⟨by omega, by omega, by omega, by omega⟩ (fun J1 e hJ1 hh => ?_)
  refine ⟨_, rfl, hM.1, sem_X12_fault hM hT.2.1 hT.2.2.1 (fun J2 e2 hF h4 => ⟨?_, ?_⟩)⟩
  · rw [hMn J1 hJ1, rd_r.1]
  · have gJ : ∀ a, ¬ (co < a ∧ a ≤ co + 4) → ¬ (m + 28 ≤ a ∧ a ≤ m + 31) → J2 a = J a := fun a h1 h2 => by
      rw [← hJ1 a (by omega) (by omega) (by omega) (by omega)]
      exact funext fun i => hF a i (fun q => by omega)
    exact ⟨n, w, la, si, L, ns, sv, tn, co, ct, cc, ⟨hm, hz⟩, hX.mono (fun _ _ => rfl) (fun f a _ hf => by rcases hf with rfl | rfl | rfl <;> rfl) (fun _ _ _ _ => rfl) (fun _ _ _ _ _ _ => rfl), hM, hP.fr (fun _ _ => rfl) (fun _ _ => rfl) (fun _ _ => rfl) (fun a ha => gJ a (by omega) (by omega)), hN.fr rfl rfl, hW.fr (Nat.le_refl _) rfl (fun _ _ => rfl) (gJ _ (by omega) (by omega)) (fun a ha ht hb => gJ a (fun q => n34 a q ht) (by omega)), hL.fr (Nat.le_refl _) rfl rfl rfl (fun _ _ => rfl) (fun f a h1 h2 _ => by simp (disch := omega) only [up2n]) (fun _ _ => rfl) (fun a h1 h2 => gJ a (by omega) (by omega)), hC.fr hL.2.1 rfl (fun _ _ => rfl) (fun _ _ => rfl) (gJ _ (by omega) (by omega)), hS.fr (fun _ _ => rfl) (fun _ _ => rfl) (fun _ _ => rfl) (fun a h1 h2 => gJ a (by omega) (by omega)), hK.fr rfl rfl rfl rfl rfl (gJ _ (by omega) (by omega)) (gJ _ (by omega) (by omega)), hU.fr (Nat.le_refl _) rfl rfl (fun _ _ => rfl) (fun _ _ => rfl) (fun _ _ => rfl) (fun _ _ => rfl) (fun _ _ => rfl) (gJ _ (by omega) (by omega)) (gJ _ (by omega) (by omega)) (gJ _ (by omega) (by omega)), hT.fr rfl rfl (gJ _ (by omega) (by omega)) (gJ _ (by omega) (by omega)), hQ.sp hm (fun a ha => by rw [up2n (by decide), up2n (by decide), up2n (by decide), up2o ha]) (fun a h1 h2 => gJ a h1 (by omega)) (gJ _ (by omega) (by omega)) (fun b i h1 h2 h3 => by rw [hF b i (fun _ => h3), hJ1 b (by omega) (by omega) (by omega) (by omega)])⟩
