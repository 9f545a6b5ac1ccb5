-- FAULT AND CONTRACT, in the reference
theorem sk_ge {f : Nat → Int32} {n : Nat} : ∀ (k a : Nat), n ≤ a + k → a ≤ sk f n a
  | 0, a, h1 => by rw [sk_f (by omega)]; exact Nat.le_refl _
  | k + 1, a, h1 => by
    by_cases h : a < n ∧ f a = 32
    · rw [sk_t h]; have := sk_ge (f := f) (n := n) k (a + 1) (by omega); omega
    · rw [sk_f h]; exact Nat.le_refl _
theorem sk_g {f : Nat → Int32} {n : Nat} (a : Nat) : a ≤ sk f n a := sk_ge n a (by omega)
theorem nuM_gt {f : Nat → Int32} {n a : Nat} (h : ¬ nuM f n a = -1) : a + 1 ≤ (dgA f n 5 a 0).1 := by
  unfold nuM at h
  by_cases e : (dgA f n 5 a 0).1 = a
  · rw [if_pos e] at h; exact absurd rfl h
  · have := dgA_ge (f := f) (n := n) 5 a 0
    omega
/-- a clause ends within the tape, and has five bytes at least -/
theorem clAM_ok {f : Nat → Int32} {n a : Nat} (h : a ≤ n) : (clAM f n a).1 ≤ n ∧ ∀ c, (clAM f n a).2 = some c → a + 5 ≤ (clAM f n a).1 := by
  have h1 : sk f n a ≤ n := sk_n h
  have g1 := sk_g (f := f) (n := n) a
  unfold clAM
  split
  · rename_i t1
    have l1 : sk f n a < n := byA_lt (fun e => by rw [e] at t1; exact absurd t1 (by decide))
    have h2 : sk f n (sk f n a + 1) ≤ n := sk_n (by omega)
    have g2 := sk_g (f := f) (n := n) (sk f n a + 1)
    unfold clBM
    split
    · rename_i t2
      have l2 : sk f n (sk f n a + 1) < n := byA_lt (fun e => by rw [e] at t2; exact absurd t2 (by decide))
      have hb : a + 2 ≤ sk f n (sk f n a + 1) + 1 ∧ sk f n (sk f n a + 1) + 1 ≤ n := by omega
      generalize sk f n (sk f n a + 1) + 1 = b at hb ⊢
      have h3 : sk f n b ≤ n := sk_n hb.2
      have g3 := sk_g (f := f) (n := n) b
      have h4 : (dgA f n 5 (sk f n b) 0).1 ≤ n := dgA_n _ _ _ h3
      have h5 : sk f n (dgA f n 5 (sk f n b) 0).1 ≤ n := sk_n h4
      have g5 := sk_g (f := f) (n := n) (dgA f n 5 (sk f n b) 0).1
      unfold clCM
      split
      · exact ⟨h4, fun c hc => by cases hc⟩
      · rename_i t3
        have g4 := nuM_gt t3
        split
        · rename_i t4
          have l5 : sk f n (dgA f n 5 (sk f n b) 0).1 < n := byA_eq t4 (by decide)
          have hs : a + 4 ≤ sk f n (sk f n (dgA f n 5 (sk f n b) 0).1 + 1) ∧ sk f n (sk f n (dgA f n 5 (sk f n b) 0).1 + 1) ≤ n := by
            have := sk_g (f := f) (n := n) (sk f n (dgA f n 5 (sk f n b) 0).1 + 1)
            exact ⟨by omega, sk_n (by omega)⟩
          generalize sk f n (sk f n (dgA f n 5 (sk f n b) 0).1 + 1) = a5 at hs ⊢
          have h6 := a6A_n (f := f) hs.2
          have g6 : a5 ≤ a6A f n a5 := by unfold a6A; split <;> omega
          have h7 : (dgA f n 5 (a6A f n a5) 0).1 ≤ n := dgA_n _ _ _ h6
          unfold clDM
          split
          · exact ⟨h7, fun c hc => by cases hc⟩
          · rename_i t5
            have g7 := nuM_gt t5
            exact ⟨h7, fun c hc => by show a + 5 ≤ (dgA f n 5 (a6A f n a5) 0).1; omega⟩
        · exact ⟨h5, fun c hc => by cases hc⟩
    · exact ⟨h2, fun c hc => by cases hc⟩
  · exact ⟨h1, fun c hc => by cases hc⟩
def prM (f : Nat → Int32) (n : Nat) : Nat → Nat → List CC → Option Nat × List CC
  | 0, a, acc => (some a, acc)
  | k + 1, a, acc => match clAM f n a with
    | (e, none) => (some e, acc)
    | (e, some c) => if byA f n (sk f n e) = -1 then (none, acc ++ [c]) else if byA f n (sk f n e) = 59 then prM f n k (sk f n e + 1) (acc ++ [c]) else (some (sk f n e), acc ++ [c])
def rdM (f : Nat → Int32) (n : Nat) : Option Nat × List CC := if byA f n (sk f n 0) = -1 then (none, []) else prM f n 34 (sk f n 0) []
def FrM (m : Nat) (J J' : MI) : Prop := ∀ b i, (b = m + 28 ∨ b = m + 29 ∨ b = m + 30 ∨ b = m + 31 → i < 400) → J' b i = J b i
def M4 (J : MI) (m : Nat) (acc : List CC) : Prop := ∀ (j : Nat) (c : CC), acc[j]? = some c → J (m + 28) (400 + j) = c.1 ∧ J (m + 29) (400 + j) = c.2.1 ∧ J (m + 30) (400 + j) = c.2.2.1 ∧ J (m + 31) (400 + j) = c.2.2.2
def adJM (J : MI) (m c : Nat) (q : CC) : MI := up2 (up2 (up2 (up2 J (m + 28) (400 + c) q.1) (m + 29) (400 + c) q.2.1) (m + 30) (400 + c) q.2.2.1) (m + 31) (400 + c) q.2.2.2
theorem M4.add {J : MI} {m : Nat} {acc : List CC} (h : M4 J m acc) (q : CC) : M4 (adJM J m acc.length q) m (acc ++ [q]) := by
  intro j c hj
  unfold adJM
  have e0 : ∀ x y v w, up2 (up2 (up2 (up2 J (m + 28) (400 + acc.length) x) (m + 29) (400 + acc.length) y) (m + 30) (400 + acc.length) v) (m + 31) (400 + acc.length) w (m + 28) = va_up (J (m + 28)) (400 + acc.length) x := fun x y v w => by rw [up2_ne _ _ _ (by omega), up2_ne _ _ _ (by omega), up2_ne _ _ _ (by omega), up2_self]
  have e1 : ∀ x y v w, up2 (up2 (up2 (up2 J (m + 28) (400 + acc.length) x) (m + 29) (400 + acc.length) y) (m + 30) (400 + acc.length) v) (m + 31) (400 + acc.length) w (m + 29) = va_up (J (m + 29)) (400 + acc.length) y := fun x y v w => by rw [up2_ne _ _ _ (by omega), up2_ne _ _ _ (by omega), up2_self, up2_ne _ _ _ (by omega)]
  have e2 : ∀ x y v w, up2 (up2 (up2 (up2 J (m + 28) (400 + acc.length) x) (m + 29) (400 + acc.length) y) (m + 30) (400 + acc.length) v) (m + 31) (400 + acc.length) w (m + 30) = va_up (J (m + 30)) (400 + acc.length) v := fun x y v w => by rw [up2_ne _ _ _ (by omega), up2_self, up2_ne _ _ _ (by omega), up2_ne _ _ _ (by omega)]
  have e3 : ∀ x y v w, up2 (up2 (up2 (up2 J (m + 28) (400 + acc.length) x) (m + 29) (400 + acc.length) y) (m + 30) (400 + acc.length) v) (m + 31) (400 + acc.length) w (m + 31) = va_up (J (m + 31)) (400 + acc.length) w := fun x y v w => by rw [up2_self, up2_ne _ _ _ (by omega), up2_ne _ _ _ (by omega), up2_ne _ _ _ (by omega)]
  rw [e0, e1, e2, e3]
  rcases Nat.lt_trichotomy j acc.length with g | g | g
  · rw [List.getElem?_append_left g] at hj
    rw [va_up_ne _ _ (by omega), va_up_ne _ _ (by omega), va_up_ne _ _ (by omega), va_up_ne _ _ (by omega)]
    exact h j c hj
  · subst g
    rw [List.getElem?_append_right (Nat.le_refl _), Nat.sub_self] at hj
    cases hj
    rw [va_up_self, va_up_self, va_up_self, va_up_self]
    exact ⟨rfl, rfl, rfl, rfl⟩
  · rw [List.getElem?_append_right (by omega), List.getElem?_eq_none (by simp; omega)] at hj
    cases hj
theorem up2_at {α : Type} {M : Nat → Nat → α} {f a g b : Nat} {v : α} (h : ¬ (g = f ∧ b = a)) : up2 M f a v g b = M g b := by
  by_cases e : g = f
  · exact up2o (fun e2 => h ⟨e, e2⟩)
  · exact up2n e
theorem FrM.add {m c : Nat} {J J' : MI} (h : FrM m J J') (q : CC) : FrM m J (adJM J' m c q) := by
  intro b i hb
  unfold adJM
  rw [up2_at (fun h => by have := hb (by omega); omega), up2_at (fun h => by have := hb (by omega); omega), up2_at (fun h => by have := hb (by omega); omega), up2_at (fun h => by have := hb (by omega); omega)]
  exact h b i hb
theorem FrM.tape {m : Nat} {J J' : MI} (h : FrM m J J') : J' (m + 26) = J (m + 26) := funext fun i => h _ i (fun q => by omega)
theorem lp_X12_fault {l : Launch} {D : va_G} {A : Nat → Prop} {z : Nat} {t : TT} {I : MI} {R : MR} {B : MR} {m n : Nat} {J0 : MI} {Φ : PP} (hM : MSt m t R) (hn : I 1231 m = nI n) (hn2 : n ≤ 200) : ∀ (k i a : Nat) (acc : List CC) (J : MI), i + k = 34 → acc.length = i → 6 * i ≤ a → a ≤ n → M4 J m acc → FrM m J0 J → (∀ (J' : MI) (e : Nat), FrM m J0 J' → M4 J' m (prM (J0 (m + 26)) n k a acc).2 → Φ (some (.int (oI (prM (J0 (m + 26)) n k a acc).1))) z t (up2 (up2 I 1238 m (nI (prM (J0 (m + 26)) n k a acc).2.length)) 1232 m (nI e)) R J' B) → V l D A (rmm 3 0 0) mX12_fault (KS D A 0 0 Φ) 0 0 z t (up2 (up2 I 1238 m (nI i)) 1232 m (nI a)) R J B 20 [some (va_rf (some m)), none] [] := by
  intro k
  induction k with
  | zero =>
    intro i a acc J hik hl h6 ha hac hJ q
    exfalso
    omega
  | succ k ih =>
    intro i a acc J hik hl h6 ha hac hJ q
    have hJf : J (m + 26) = J0 (m + 26) := hJ.tape
    have hsz : ∀ c : Nat, (up2 I 1238 m (nI c)) 1231 m = nI n := fun c => (up2n (by decide)).trans hn
    have hen := clAM_ok (f := J0 (m + 26)) ha
    rw [prM] at q
    refine V_aload dX12_fault_20 rfl ?_
    refine V_invV (As := []) mv_X12_clause lk_X12_195 dX12_fault_21 (c := 12) (by decide) rfl rfl hM.1 rfl rfl (Nat.le_of_ble_eq_true rfl) ⟨⟨by decide, by decide⟩, by decide, by decide⟩ (sem_X12_clause hM (hsz i) hn2 up2s (by omega) ha ?_)
    rw [hJf]
    rcases hcl : clAM (J0 (m + 26)) n a with ⟨e, _ | cq⟩
    · dsimp only [clQM]
      rw [hcl] at q hen
      refine V_if_ne dX12_fault_24 (fun hc24 => ?_) (fun hc24 => ?_)
      · exact absurd rfl hc24
      · refine V_aload dX12_fault_27 rfl ?_
        refine V_getIs fk_X12_179 dX12_fault_28 hM.1 up2s ?_
        exact V_iret dX12_fault_31 rfl (by decide) (by decide) (by have h9 := q J e hJ hac; rw [hl] at h9; exact h9)
    · dsimp only [clQM]
      rw [up2_uu]
      rw [hcl] at q hen
      dsimp only at q hen
      have h5 := hen.2 cq rfl
      have hJ2 : FrM m J0 (adJM J m i cq) := hJ.add cq
      have hac2 : M4 (adJM J m i cq) m (acc ++ [cq]) := by rw [← hl]; exact hac.add cq
      have hJf2 := hJ2.tape
      have hl2 : (acc ++ [cq]).length = i + 1 := by simp [hl]
      have hse : sk (J0 (m + 26)) n e ≤ n := sk_n hen.1
      have hsg := sk_g (f := J0 (m + 26)) (n := n) e
      rw [show up2 (up2 (up2 (up2 J (m + 28) (400 + i) cq.1) (m + 29) (400 + i) cq.2.1) (m + 30) (400 + i) cq.2.2.1) (m + 31) (400 + i) cq.2.2.2 = adJM J m i cq from rfl]
      generalize adJM J m i cq = J2 at *
      refine V_if_ne dX12_fault_24 (fun hc24 => ?_) (fun hc24 => ?_)
      · refine V_aload dX12_fault_32 rfl ?_
        refine V_invV (As := []) mv_X12_look lk_X12_185 dX12_fault_33 (c := 12) (by decide) rfl rfl hM.1 rfl rfl (Nat.le_of_ble_eq_true rfl) ⟨⟨by decide, by decide⟩, by decide, by decide⟩ (sem_X12_look hM (hsz (i + 1)) hn2 (by omega) ?_)
        rw [hJf2]
        refine V_is1 dX12_fault_36 (by decide) (noL_r _) ?_
        refine V_iload dX12_fault_37 rfl ?_
        refine V_const dX12_fault_38 ?_
        refine V_icmp_ne dX12_fault_39 (fun hc39 => ?_) (fun hc39 => ?_)
        · refine V_iload dX12_fault_44 rfl ?_
          refine V_const dX12_fault_45 ?_
          refine V_icmp_eq dX12_fault_47 (fun hc47 => ?_) (fun hc47 => ?_)
          · refine V_aload dX12_fault_55 rfl ?_
            refine V_dupr dX12_fault_56 ?_
            refine V_getIs fk_X12_179 dX12_fault_57 hM.1 up2s ?_
            refine V_const dX12_fault_60 ?_
            refine V_iadd dX12_fault_61 ?_
            refine V_putI fk_X12_179 (Or.inl rfl) rfl rfl dX12_fault_62 hM.1 ?_
            refine V_goto dX12_fault_65 ?_
            have hlt : sk (J0 (m + 26)) n e < n := byA_eq hc47 (by decide)
            rw [up2_uu, nI_1]
            exact V.sub (lsS (lsN ls0)) (ih (i + 1) _ (acc ++ [cq]) J2 (by omega) hl2 (by omega) (by omega) hac2 hJ2 (by rw [if_neg hc39, if_pos hc47] at q; exact q))
          · refine V_aload dX12_fault_50 rfl ?_
            refine V_getIs fk_X12_179 dX12_fault_51 hM.1 up2s ?_
            exact V_iret dX12_fault_54 rfl (by decide) (by decide) (by rw [if_neg hc39, if_neg hc47] at q; have h9 := q J2 (sk (J0 (m + 26)) n e) hJ2 hac2; dsimp only at h9; rw [hl2] at h9; exact h9)
        · refine V_const dX12_fault_42 ?_
          exact V_iret dX12_fault_43 rfl (by decide) (by decide) (by rw [if_pos hc39] at q; have h9 := q J2 (sk (J0 (m + 26)) n e) hJ2 hac2; dsimp only at h9; rw [hl2] at h9; exact h9)
      · exact absurd hc24 (by decide)
theorem sem_X12_fault {l : Launch} {D : va_G} {A : Nat → Prop} {z : Nat} {t : TT} {I : MI} {R : MR} {J : MI} {B : MR} {m n : Nat} {Φ : PP} (hM : MSt m t R) (hn : I 1231 m = nI n) (hn2 : n ≤ 200) (q : ∀ (J' : MI) (e : Nat), FrM m J J' → M4 J' m (rdM (J (m + 26)) n).2 → Φ (some (.int (oI (rdM (J (m + 26)) n).1))) z t (up2 (up2 I 1238 m (nI (rdM (J (m + 26)) n).2.length)) 1232 m (nI e)) R J' B) : Sem l D A 3 0 0 mX12_fault [va_rf (some m)] z t I R J B Φ := by
  refine Sem.run [some (va_rf (some m)), none] (by decide) rfl (ent_r (ent_none ent_nil)) ?_
  refine V_aload dX12_fault_0 rfl ?_
  refine V_const dX12_fault_1 ?_
  refine V_putI fk_X12_179 (Or.inl rfl) rfl rfl dX12_fault_2 hM.1 ?_
  refine V_aload dX12_fault_5 rfl ?_
  refine V_const dX12_fault_6 ?_
  refine V_putI fk_X12_192 (Or.inl rfl) rfl rfl dX12_fault_7 hM.1 ?_
  rw [up2_comm _ _ _ _ _ (by decide)]
  refine V_aload dX12_fault_10 rfl ?_
  refine V_invV (As := []) mv_X12_look lk_X12_185 dX12_fault_11 (c := 12) (by decide) rfl rfl hM.1 rfl rfl (Nat.le_of_ble_eq_true rfl) ⟨⟨by decide, by decide⟩, by decide, by decide⟩ (sem_X12_look (a := 0) hM ((up2n (by decide)).trans hn) hn2 (by omega) ?_)
  refine V_const dX12_fault_14 ?_
  refine V_icmp_ne dX12_fault_15 (fun hc15 => ?_) (fun hc15 => ?_)
  · exact lp_X12_fault hM hn hn2 34 0 (sk (J (m + 26)) n 0) [] J rfl rfl (by omega) (sk_n (Nat.zero_le n)) (fun j c h => by simp at h) (fun b i _ => rfl) (by unfold rdM at q; rw [if_neg hc15] at q; exact q)
  · refine V_const dX12_fault_18 ?_
    exact V_iret dX12_fault_19 rfl (by decide) (by decide) (by unfold rdM at q; rw [if_pos hc15] at q; exact q J _ (fun b i _ => rfl) (fun j c h => by simp at h))
def cpM (m j : Nat) (k : Nat) (J : MI) : MI := up2 (up2 (up2 (up2 J (m + 28) (40 * j + k) (J (m + 28) (400 + k))) (m + 29) (40 * j + k) (J (m + 29) (400 + k))) (m + 30) (40 * j + k) (J (m + 30) (400 + k))) (m + 31) (40 * j + k) (J (m + 31) (400 + k))
theorem pm_len {f : Nat → Int32} {n : Nat} : ∀ (k a : Nat) (acc : List CC), (prM f n k a acc).2.length ≤ acc.length + k
  | 0, a, acc => Nat.le_refl _
  | k + 1, a, acc => by
    rw [prM]
    rcases clAM f n a with ⟨e, _ | c⟩
    · show acc.length ≤ _; omega
    · dsimp only
      split
      · simp
      · split
        · have := pm_len (f := f) (n := n) k (sk f n e + 1) (acc ++ [c])
          simp at this ⊢
          omega
        · simp
theorem rm_len {f : Nat → Int32} {n : Nat} : (rdM f n).2.length ≤ 34 := by
  unfold rdM
  split
  · simp
  · have := pm_len (f := f) (n := n) 34 (sk f n 0) []
    simpa using this
theorem pm_le {f : Nat → Int32} {n : Nat} : ∀ (k a : Nat) (acc : List CC), a ≤ n → ∀ p, (prM f n k a acc).1 = some p → p ≤ n
  | 0, a, acc, h, p, hp => by rw [prM] at hp; cases hp; exact h
  | k + 1, a, acc, h, p, hp => by
    rw [prM] at hp
    have h0 := (clAM_ok (f := f) h).1
    rcases hcl : clAM f n a with ⟨e, _ | c⟩
    · rw [hcl] at hp h0; cases hp; exact h0
    · rw [hcl] at hp h0
      have h1 : sk f n e ≤ n := sk_n h0
      dsimp only at hp
      split at hp
      · cases hp
      · split at hp
        · rename_i h2
          exact pm_le k _ _ (byA_eq h2 (by decide)) p hp
        · cases hp; exact h1
theorem rm_le {f : Nat → Int32} {n p : Nat} (h : (rdM f n).1 = some p) : p ≤ n := by
  unfold rdM at h
  split at h
  · cases h
  · exact pm_le 34 _ [] (sk_n (Nat.zero_le n)) p h
theorem lp_X12_contract {l : Launch} {D : va_G} {A : Nat → Prop} {z : Nat} {t : TT} {I : MI} {R : MR} {B : MR} {m j N : Nat} {Φ : PP} (hM : MSt m t R) (hj : j < 10) (hN : I 1238 m = nI N) (hN2 : N ≤ 34) : ∀ (n i : Nat) (J : MI), i + n = N → V l D A (rmm 4 0 0) mX12_contract (KS D A 0 0 Φ) 0 0 z t I R (itr (cpM m j) i n J) B 120 [some (va_rf (some m)), some (.int (nI j)), none] [] → V l D A (rmm 4 0 0) mX12_contract (KS D A 0 0 Φ) 0 0 z t I R J B 22 [some (va_rf (some m)), some (.int (nI j)), some (.int (nI i))] [] := by
  intro n
  induction n with
  | zero =>
    intro i J hin kk
    have hi : i = N := by omega
    subst hi
    refine V_iload dX12_contract_22 rfl ?_
    refine V_aload dX12_contract_23 rfl ?_
    refine V_getIs fk_X12_192 dX12_contract_24 hM.1 hN ?_
    refine V_icmp_ge dX12_contract_27 (fun hc27 => ?_) (fun hc27 => ?_)
    · exact V.sub (lsS (lsS (lsN ls0))) kk
    · exact absurd (Int32.le_refl _) hc27
  | succ n ih =>
    intro i J hin kk
    refine V_iload dX12_contract_22 rfl ?_
    refine V_aload dX12_contract_23 rfl ?_
    refine V_getIs fk_X12_192 dX12_contract_24 hM.1 hN ?_
    refine V_icmp_ge dX12_contract_27 (fun hc27 => ?_) (fun hc27 => ?_)
    · exact absurd hc27 (nI_ge (by omega) (by omega))
    · refine V_aload dX12_contract_30 rfl ?_
      refine V_getRs fk_X12_91 dX12_contract_31 hM.1 hM.a1234.1 ?_
      refine V_const dX12_contract_34 ?_
      refine V_iload dX12_contract_36 rfl ?_
      refine V_imul dX12_contract_37 ?_
      refine V_iload dX12_contract_38 rfl ?_
      refine V_iadd dX12_contract_39 ?_
      refine V_aload dX12_contract_40 rfl ?_
      refine V_getRs fk_X12_91 dX12_contract_41 hM.1 hM.a1234.1 ?_
      refine V_const dX12_contract_44 ?_
      refine V_iload dX12_contract_47 rfl ?_
      refine V_iadd dX12_contract_48 ?_
      refine V_iald dX12_contract_49 hM.a1234.2 (i := 400 + i) (nI_add 400 i) (by omega) (by decide) ?_
      refine V_iast dX12_contract_50 hM.a1234.2 (i := 40 * j + i) (by rw [show (40 : Int32) = nI 40 from rfl, pk_mul, nI_add]) (by omega) (by decide) ?_
      refine V_aload dX12_contract_51 rfl ?_
      refine V_getRs fk_X12_94 dX12_contract_52 hM.1 hM.a1235.1 ?_
      refine V_const dX12_contract_55 ?_
      refine V_iload dX12_contract_57 rfl ?_
      refine V_imul dX12_contract_58 ?_
      refine V_iload dX12_contract_59 rfl ?_
      refine V_iadd dX12_contract_60 ?_
      refine V_aload dX12_contract_61 rfl ?_
      refine V_getRs fk_X12_94 dX12_contract_62 hM.1 hM.a1235.1 ?_
      refine V_const dX12_contract_65 ?_
      refine V_iload dX12_contract_68 rfl ?_
      refine V_iadd dX12_contract_69 ?_
      refine V_ialds dX12_contract_70 hM.a1235.2 (i := 400 + i) (nI_add 400 i) (by omega) (by decide) (up2n (by omega)) ?_
      refine V_iast dX12_contract_71 hM.a1235.2 (i := 40 * j + i) (by rw [show (40 : Int32) = nI 40 from rfl, pk_mul, nI_add]) (by omega) (by decide) ?_
      refine V_aload dX12_contract_72 rfl ?_
      refine V_getRs fk_X12_97 dX12_contract_73 hM.1 hM.a1236.1 ?_
      refine V_const dX12_contract_76 ?_
      refine V_iload dX12_contract_78 rfl ?_
      refine V_imul dX12_contract_79 ?_
      refine V_iload dX12_contract_80 rfl ?_
      refine V_iadd dX12_contract_81 ?_
      refine V_aload dX12_contract_82 rfl ?_
      refine V_getRs fk_X12_97 dX12_contract_83 hM.1 hM.a1236.1 ?_
      refine V_const dX12_contract_86 ?_
      refine V_iload dX12_contract_89 rfl ?_
      refine V_iadd dX12_contract_90 ?_
      refine V_ialds dX12_contract_91 hM.a1236.2 (i := 400 + i) (nI_add 400 i) (by omega) (by decide) ((up2n (by omega)).trans (up2n (by omega))) ?_
      refine V_iast dX12_contract_92 hM.a1236.2 (i := 40 * j + i) (by rw [show (40 : Int32) = nI 40 from rfl, pk_mul, nI_add]) (by omega) (by decide) ?_
      refine V_aload dX12_contract_93 rfl ?_
      refine V_getRs fk_X12_100 dX12_contract_94 hM.1 hM.a1237.1 ?_
      refine V_const dX12_contract_97 ?_
      refine V_iload dX12_contract_99 rfl ?_
      refine V_imul dX12_contract_100 ?_
      refine V_iload dX12_contract_101 rfl ?_
      refine V_iadd dX12_contract_102 ?_
      refine V_aload dX12_contract_103 rfl ?_
      refine V_getRs fk_X12_100 dX12_contract_104 hM.1 hM.a1237.1 ?_
      refine V_const dX12_contract_107 ?_
      refine V_iload dX12_contract_110 rfl ?_
      refine V_iadd dX12_contract_111 ?_
      refine V_ialds dX12_contract_112 hM.a1237.2 (i := 400 + i) (nI_add 400 i) (by omega) (by decide) ((up2n (by omega)).trans ((up2n (by omega)).trans (up2n (by omega)))) ?_
      refine V_iast dX12_contract_113 hM.a1237.2 (i := 40 * j + i) (by rw [show (40 : Int32) = nI 40 from rfl, pk_mul, nI_add]) (by omega) (by decide) ?_
      refine V_ii2 dX12_contract_114 (by decide) (noL_i _) ?_
      refine V_goto dX12_contract_117 ?_
      exact V.sub (lsS (lsS (lsE (by rw [nI_1]) ls0))) (ih (i + 1) _ (by omega) kk)
theorem sem_X12_contract {l : Launch} {D : va_G} {A : Nat → Prop} {z : Nat} {t : TT} {I : MI} {R : MR} {J : MI} {B : MR} {m n : Nat} {mk : Int32} {Φ : PP} (hM : MSt m t R) (hn : I 1231 m = nI n) (hn2 : n ≤ 200) (q0 : ¬ (0 ≤ mk ∧ mk ≤ 9) → Φ (some (.int 0)) z t I R J B) (q1 : 0 ≤ mk ∧ mk ≤ 9 → ¬ (rdM (J (m + 26)) n).1 = none → ∀ (J' : MI) (e : Nat), FrM m J J' → Φ (some (.int 0)) z t (up2 (up2 I 1238 m (nI (rdM (J (m + 26)) n).2.length)) 1232 m (nI e)) R J' B) (q : ∀ j, j < 10 → mk = nI j → (rdM (J (m + 26)) n).1 = none → ∀ (J' : MI) (e : Nat), FrM m J J' → M4 J' m (rdM (J (m + 26)) n).2 → Φ (some (.int 1)) z t (up2 (up2 (up2 I 1238 m (nI (rdM (J (m + 26)) n).2.length)) 1232 m (nI e)) 1231 m 0) R (up2 (itr (cpM m j) 0 (rdM (J (m + 26)) n).2.length J') (m + 27) j (nI (rdM (J (m + 26)) n).2.length)) B) : Sem l D A 4 0 0 mX12_contract [va_rf (some m), .int mk] z t I R J B Φ := by
  refine Sem.run [some (va_rf (some m)), some (.int mk), none] (by decide) rfl (ent_r (ent_i (ent_none ent_nil))) ?_
  refine V_iload dX12_contract_0 rfl ?_
  refine V_const dX12_contract_1 ?_
  refine V_const dX12_contract_2 ?_
  refine V_invS (As := [_, _, _]) ms_X12_in lk_X12_115 dX12_contract_4 rfl rfl rfl (Nat.le_of_ble_eq_true rfl) ⟨⟨by decide, by decide⟩, by decide, by decide⟩ (sem_X12_in ?_)
  refine V_if_eq dX12_contract_7 (fun hc7 => ?_) (fun hc7 => ?_)
  · rw [bI_0] at hc7
    refine V_const dX12_contract_18 ?_
    exact V_zret dX12_contract_19 rfl (by first | exact Or.inl rfl | exact Or.inr rfl) (by decide) (by decide) (q0 hc7)
  · rw [bI_n0] at hc7
    refine V_aload dX12_contract_10 rfl ?_
    refine V_invV (As := []) mv_X12_fault lk_X12_199 dX12_contract_11 (c := 12) (by decide) rfl rfl hM.1 rfl rfl (Nat.le_of_ble_eq_true rfl) ⟨⟨by decide, by decide⟩, by decide, by decide⟩ (sem_X12_fault hM hn hn2 (fun J' e g1 g2 => ?_))
    refine V_const dX12_contract_14 ?_
    refine V_icmp_eq dX12_contract_15 (fun hc15 => ?_) (fun hc15 => ?_)
    · have hnone : (rdM (J (m + 26)) n).1 = none := (oI_none (fun b hb => by have := rm_le hb; omega)).mp hc15
      obtain ⟨j, hj, hvj⟩ := i_rng (N := 10) rfl hc7
      subst hvj
      refine V_const dX12_contract_20 ?_
      refine V_is2 dX12_contract_21 (by decide) (noL_i _) ?_
      refine V.sub (lsS (lsS (lsS ls0))) (lp_X12_contract hM hj ((up2n (by decide)).trans up2s) rm_len ((rdM (J (m + 26)) n).2.length) 0 J' (by omega) ?_)
      refine V_aload dX12_contract_120 rfl ?_
      refine V_getRs fk_X12_88 dX12_contract_121 hM.1 hM.a1233.1 ?_
      refine V_iload dX12_contract_124 rfl ?_
      refine V_aload dX12_contract_125 rfl ?_
      refine V_getIs fk_X12_192 dX12_contract_126 hM.1 ((up2n (by decide)).trans up2s) ?_
      refine V_iast dX12_contract_129 hM.a1233.2 rfl hj (by decide) ?_
      refine V_aload dX12_contract_130 rfl ?_
      refine V_const dX12_contract_131 ?_
      refine V_putI fk_X12_176 (Or.inl rfl) rfl rfl dX12_contract_132 hM.1 ?_
      refine V_const dX12_contract_135 ?_
      exact V_zret dX12_contract_136 rfl (by first | exact Or.inl rfl | exact Or.inr rfl) (by decide) (by decide) (q j hj rfl hnone J' e g1 g2)
    · have hsome : ¬ (rdM (J (m + 26)) n).1 = none := fun h => hc15 (by rw [h]; rfl)
      refine V_const dX12_contract_18 ?_
      exact V_zret dX12_contract_19 rfl (by first | exact Or.inl rfl | exact Or.inr rfl) (by decide) (by decide) (q1 hc7 hsome J' e g1)
