-- READING A TAPE: what is read, and the class's reader
/-- the byte at a place of the first n; -1 behind them -/
def byA (f : Nat → Int32) (n a : Nat) : Int32 := if a < n then f a else -1
/-- past the blanks -/
def sk (f : Nat → Int32) (n a : Nat) : Nat := if h : a < n ∧ f a = 32 then sk f n (a + 1) else a
termination_by n - a
theorem sk_t {f : Nat → Int32} {n a : Nat} (h : a < n ∧ f a = 32) : sk f n a = sk f n (a + 1) := by rw [sk, dif_pos h]
theorem sk_f {f : Nat → Int32} {n a : Nat} (h : ¬ (a < n ∧ f a = 32)) : sk f n a = a := by rw [sk, dif_neg h]
/-- up to k digits -/
def dgA (f : Nat → Int32) (n : Nat) : Nat → Nat → Int32 → Nat × Int32
  | 0, a, v => (a, v)
  | k + 1, a, v => if 48 ≤ byA f n a ∧ byA f n a ≤ 57 then dgA f n k (a + 1) (v * 10 + byA f n a - 48) else (a, v)
theorem dgA_ge {f : Nat → Int32} {n : Nat} : ∀ (k a : Nat) (v : Int32), a ≤ (dgA f n k a v).1
  | 0, _, _ => Nat.le_refl _
  | k + 1, a, v => by
    rw [dgA]
    split
    · have := dgA_ge (f := f) (n := n) k (a + 1) (v * 10 + byA f n a - 48); omega
    · exact Nat.le_refl _
theorem dgA_pos {f : Nat → Int32} {n : Nat} : ∀ (k a : Nat) (v : Int32), k ≤ 5 → 0 ≤ v.toInt → v.toInt * 10 ^ k + 10 ^ k ≤ 100000 → 0 ≤ (dgA f n k a v).2.toInt ∧ (dgA f n k a v).2.toInt < 100000
  | 0, _, v, _, h1, h2 => by
    rw [dgA]
    simp at h2
    exact ⟨h1, by show v.toInt < 100000; omega⟩
  | k + 1, a, v, hk, h1, h2 => by
    rw [dgA]
    have hp : (1 : Int) ≤ 10 ^ k := Int.pow_pos (by decide)
    have hv : v.toInt * 10 ^ (k + 1) + 10 ^ (k + 1) = (v.toInt * 10 + 10) * 10 ^ k := by rw [Int.pow_succ, Int.add_mul, Int.mul_assoc, Int.mul_comm (10 ^ k) 10]
    rw [hv] at h2
    have hb : v.toInt * 10 + 10 ≤ 100000 := by
      have := Int.mul_le_mul_of_nonneg_left hp (show (0 : Int) ≤ v.toInt * 10 + 10 by omega)
      omega
    split
    · rename_i h
      obtain ⟨g1, g2⟩ := h
      rw [i_le] at g1 g2
      have e48 : (48 : Int32).toInt = 48 := rfl
      have e57 : (57 : Int32).toInt = 57 := rfl
      have e10 : (10 : Int32).toInt = 10 := rfl
      have m1 : (v * 10).toInt = v.toInt * 10 := by rw [Int32.toInt_mul, e10]; apply Int.bmod_eq_of_le <;> omega
      have m2 : (v * 10 + byA f n a).toInt = v.toInt * 10 + (byA f n a).toInt := by rw [Int32.toInt_add, m1]; apply Int.bmod_eq_of_le <;> omega
      have m3 : (v * 10 + byA f n a - 48).toInt = v.toInt * 10 + (byA f n a).toInt - 48 := by rw [Int32.toInt_sub, m2, e48]; apply Int.bmod_eq_of_le <;> omega
      refine dgA_pos k (a + 1) _ (by omega) (by rw [m3]; omega) ?_
      rw [m3]
      have : (v.toInt * 10 + (byA f n a).toInt - 48) * 10 ^ k + 10 ^ k = (v.toInt * 10 + (byA f n a).toInt - 48 + 1) * 10 ^ k := by rw [Int.add_mul (v.toInt * 10 + (byA f n a).toInt - 48) 1, Int.one_mul]
      rw [this]
      refine Int.le_trans (Int.mul_le_mul_of_nonneg_right (show v.toInt * 10 + (byA f n a).toInt - 48 + 1 ≤ v.toInt * 10 + 10 by omega) (by omega)) h2
    · exact ⟨h1, by show v.toInt < 100000; omega⟩
theorem dg5 {f : Nat → Int32} {n a : Nat} : 0 ≤ (dgA f n 5 a 0).2.toInt ∧ (dgA f n 5 a 0).2.toInt < 100000 := dgA_pos 5 a 0 (by decide) (by decide) (by decide)
theorem dg5_ne {f : Nat → Int32} {n a : Nat} : ¬ (dgA f n 5 a 0).2 = -1 := fun h => by
  have := (dg5 (f := f) (n := n) (a := a)).1
  rw [h] at this
  exact absurd this (by decide)
def RdOk (t : TT) (I : MI) (R : MR) (o tp ab n : Nat) : Prop := (t o).1 = 7 ∧ R 600 o = some tp ∧ (t tp).1 = 11 ∧ R 1000 tp = some ab ∧ t ab = (20, 200) ∧ I 1001 tp = nI n ∧ n ≤ 200
theorem sem_X10_byteAt {l : Launch} {D : va_G} {A : Nat → Prop} {z : Nat} {t : TT} {I : MI} {R : MR} {J : MI} {B : MR} {o ab n a : Nat} {Φ : PP} (ho : (t o).1 = 11) (h1 : R 1000 o = some ab) (h2 : t ab = (20, 200)) (hn : I 1001 o = nI n) (hn2 : n ≤ 200) (ha : a < 1000) (q : Φ (some (.int (byA (J ab) n a))) z t I R J B) : Sem l D A 1 0 0 mX10_byteAt [va_rf (some o), .int (nI a)] z t I R J B Φ := by
  refine Sem.run [some (va_rf (some o)), some (.int (nI a))] (by decide) rfl (ent_r (ent_i ent_nil)) ?_
  refine V_iload dX10_byteAt_0 rfl ?_
  refine V_const dX10_byteAt_1 ?_
  refine V_aload dX10_byteAt_2 rfl ?_
  refine V_getIs fk_X10_19 dX10_byteAt_3 (by assumption) hn ?_
  refine V_const dX10_byteAt_6 ?_
  refine V_isub dX10_byteAt_7 ?_
  refine V_invSN (As := [_, _, _]) (host := "FleetStores") ms_X11_within (by decide +kernel) dX10_byteAt_8 rfl rfl (Nat.le_of_ble_eq_true rfl) ⟨⟨by decide, by decide⟩, by decide, by decide⟩ (sem_X11_within ?_)
  refine V_if_eq dX10_byteAt_11 (fun hc11 => ?_) (fun hc11 => ?_)
  · rw [bI_0] at hc11
    have hna : ¬ a < n := fun h => i_out (i_pred (by omega)) (by omega) hc11 a h rfl
    refine V_const dX10_byteAt_23 ?_
    exact V_iret dX10_byteAt_24 rfl (by decide) (by decide) (by unfold byA at q; rw [if_neg hna] at q; exact q)
  · rw [bI_n0] at hc11
    have hna : a < n := by
      obtain ⟨i, hi, e⟩ := i_rng (i_pred (by omega)) hc11
      have := (nI_eq (by omega) (by omega)).mp e
      omega
    refine V_aload dX10_byteAt_14 rfl ?_
    refine V_getRs fk_X10_9 dX10_byteAt_15 (by assumption) h1 ?_
    refine V_iload dX10_byteAt_18 rfl ?_
    refine V_iald dX10_byteAt_19 h2 rfl (by omega) (by decide) ?_
    refine V_goto dX10_byteAt_20 ?_
    exact V_iret dX10_byteAt_24 rfl (by decide) (by decide) (by unfold byA at q; rw [if_pos hna] at q; exact q)
theorem sem_X6_here {l : Launch} {D : va_G} {A : Nat → Prop} {z : Nat} {t : TT} {I : MI} {R : MR} {J : MI} {B : MR} {o tp ab n a : Nat}  {Φ : PP} (hr : RdOk t I R o tp ab n) (ha : a < 1000) (q : Φ (some (.int (byA (J ab) n a))) z t (up2 I 601 o (nI a)) R J B) : Sem l D A 2 0 0 mX6_here [va_rf (some o)] z t (up2 I 601 o (nI a)) R J B Φ := by
  refine Sem.run [some (va_rf (some o))] (by decide) rfl (ent_r ent_nil) ?_
  refine V_aload dX6_here_0 rfl ?_
  refine V_getRs fk_X6_9 dX6_here_1 hr.1 hr.2.1 ?_
  refine V_aload dX6_here_4 rfl ?_
  refine V_getIs fk_X6_15 dX6_here_5 hr.1 up2s ?_
  refine V_invV (As := [_]) mv_X10_byteAt lk_X6_55 dX6_here_8 (c := 10) (by decide) rfl rfl hr.2.2.1 rfl rfl (Nat.le_of_ble_eq_true rfl) ⟨⟨by decide, by decide⟩, by decide, by decide⟩ (sem_X10_byteAt hr.2.2.1 hr.2.2.2.1 hr.2.2.2.2.1 ((up2n (by decide)).trans hr.2.2.2.2.2.1) hr.2.2.2.2.2.2 ha ?_)
  exact V_iret dX6_here_11 rfl (by decide) (by decide) q
theorem sem_X6_pass {l : Launch} {D : va_G} {A : Nat → Prop} {z : Nat} {t : TT} {I : MI} {R : MR} {J : MI} {B : MR} {o tp ab n a : Nat} {c : Int32} {Φ : PP} (hr : RdOk t I R o tp ab n) (ha : a < 1000) (q0 : ¬ byA (J ab) n a = c → Φ (some (.int 0)) z t (up2 I 601 o (nI a)) R J B) (q : byA (J ab) n a = c → Φ (some (.int 1)) z t (up2 I 601 o (nI (a + 1))) R J B) : Sem l D A 3 0 0 mX6_pass [va_rf (some o), .int c] z t (up2 I 601 o (nI a)) R J B Φ := by
  refine Sem.run [some (va_rf (some o)), some (.int c)] (by decide) rfl (ent_r (ent_i ent_nil)) ?_
  refine V_aload dX6_pass_0 rfl ?_
  refine V_invV (As := []) mv_X6_here lk_X6_27 dX6_pass_1 (c := 6) (by decide) rfl rfl hr.1 rfl rfl (Nat.le_of_ble_eq_true rfl) ⟨⟨by decide, by decide⟩, by decide, by decide⟩ (sem_X6_here hr ha ?_)
  refine V_iload dX6_pass_4 rfl ?_
  refine V_icmp_eq dX6_pass_5 (fun hc5 => ?_) (fun hc5 => ?_)
  · refine V_aload dX6_pass_10 rfl ?_
    refine V_dupr dX6_pass_11 ?_
    refine V_getIs fk_X6_15 dX6_pass_12 hr.1 up2s ?_
    refine V_const dX6_pass_15 ?_
    refine V_iadd dX6_pass_16 ?_
    refine V_putI fk_X6_15 (Or.inl rfl) rfl rfl dX6_pass_17 hr.1 ?_
    refine V_const dX6_pass_20 ?_
    exact V_zret dX6_pass_21 rfl (by first | exact Or.inl rfl | exact Or.inr rfl) (by decide) (by decide) (by have h9 := q hc5; rw [up2_uu, nI_1]; exact h9)
  · refine V_const dX6_pass_8 ?_
    exact V_zret dX6_pass_9 rfl (by first | exact Or.inl rfl | exact Or.inr rfl) (by decide) (by decide) (q0 hc5)
theorem lp_X6_skip {l : Launch} {D : va_G} {A : Nat → Prop} {z : Nat} {t : TT} {I : MI} {R : MR} {J : MI} {B : MR} {o tp ab n : Nat} {Φ : PP} (hr : RdOk t I R o tp ab n) : ∀ (k a : Nat), n ≤ a + k → a ≤ 200 → Φ none z t (up2 I 601 o (nI (sk (J ab) n a))) R J B → V l D A (rmm 3 0 0) mX6_skipBlanks (KS D A 0 0 Φ) 0 0 z t (up2 I 601 o (nI a)) R J B 0 [some (va_rf (some o))] [] := by
  intro k
  induction k with
  | zero =>
    intro a hk ha q
    rw [sk_f (fun h => by omega)] at q
    refine V_aload dX6_skipBlanks_0 rfl ?_
    refine V_getIs fk_X6_15 dX6_skipBlanks_1 hr.1 up2s ?_
    refine V_aload dX6_skipBlanks_4 rfl ?_
    refine V_getRs fk_X6_9 dX6_skipBlanks_5 hr.1 hr.2.1 ?_
    refine V_getIs fk_X6_50 dX6_skipBlanks_8 hr.2.2.1 ((up2n (by decide)).trans hr.2.2.2.2.2.1) ?_
    refine V_icmp_ge dX6_skipBlanks_11 (fun hc11 => ?_) (fun hc11 => ?_)
    · exact V_vret dX6_skipBlanks_36 rfl (by decide) (by decide) q
    · exact absurd (nI_le (by omega) (by omega)) hc11
  | succ k ih =>
    intro a hk ha q
    refine V_aload dX6_skipBlanks_0 rfl ?_
    refine V_getIs fk_X6_15 dX6_skipBlanks_1 hr.1 up2s ?_
    refine V_aload dX6_skipBlanks_4 rfl ?_
    refine V_getRs fk_X6_9 dX6_skipBlanks_5 hr.1 hr.2.1 ?_
    refine V_getIs fk_X6_50 dX6_skipBlanks_8 hr.2.2.1 ((up2n (by decide)).trans hr.2.2.2.2.2.1) ?_
    refine V_icmp_ge dX6_skipBlanks_11 (fun hc11 => ?_) (fun hc11 => ?_)
    · have hge : ¬ a < n := fun h => absurd hc11 (nI_ge h (by have := hr.2.2.2.2.2.2; omega))
      exact V_vret dX6_skipBlanks_36 rfl (by decide) (by decide) (by rw [sk_f (fun h => hge h.1)] at q; exact q)
    · have hlt : a < n := by
        rcases Nat.lt_or_ge a n with h | h
        · exact h
        · exact absurd (nI_le h (by omega)) hc11
      have hn2 := hr.2.2.2.2.2.2
      have hby : byA (J ab) n a = J ab a := if_pos hlt
      refine V_aload dX6_skipBlanks_14 rfl ?_
      refine V_invV (As := []) mv_X6_here lk_X6_27 dX6_skipBlanks_15 (c := 6) (by decide) rfl rfl hr.1 rfl rfl (Nat.le_of_ble_eq_true rfl) ⟨⟨by decide, by decide⟩, by decide, by decide⟩ (sem_X6_here hr (by omega) ?_)
      refine V_const dX6_skipBlanks_18 ?_
      refine V_icmp_ne dX6_skipBlanks_20 (fun hc20 => ?_) (fun hc20 => ?_)
      · exact V_vret dX6_skipBlanks_36 rfl (by decide) (by decide) (by rw [sk_f (fun h => hc20 (hby.trans h.2))] at q; exact q)
      · refine V_aload dX6_skipBlanks_23 rfl ?_
        refine V_dupr dX6_skipBlanks_24 ?_
        refine V_getIs fk_X6_15 dX6_skipBlanks_25 hr.1 up2s ?_
        refine V_const dX6_skipBlanks_28 ?_
        refine V_iadd dX6_skipBlanks_29 ?_
        refine V_putI fk_X6_15 (Or.inl rfl) rfl rfl dX6_skipBlanks_30 hr.1 ?_
        refine V_goto dX6_skipBlanks_33 ?_
        rw [up2_uu, nI_1]
        exact ih (a + 1) (by omega) (by omega) (by rw [sk_t ⟨hlt, hby.symm.trans hc20⟩] at q; exact q)
theorem sem_X6_skipBlanks {l : Launch} {D : va_G} {A : Nat → Prop} {z : Nat} {t : TT} {I : MI} {R : MR} {J : MI} {B : MR} {o tp ab n a : Nat} {Φ : PP} (hr : RdOk t I R o tp ab n) (ha : a ≤ 200) (q : Φ none z t (up2 I 601 o (nI (sk (J ab) n a))) R J B) : Sem l D A 3 0 0 mX6_skipBlanks [va_rf (some o)] z t (up2 I 601 o (nI a)) R J B Φ := by
  refine Sem.run [some (va_rf (some o))] (by decide) rfl (ent_r ent_nil) ?_
  exact lp_X6_skip hr n a (by omega) ha q
theorem lp_X6_digits {l : Launch} {D : va_G} {A : Nat → Prop} {z : Nat} {t : TT} {I : MI} {R : MR} {J : MI} {B : MR} {o tp ab n a0 : Nat} {Φ : PP} (hr : RdOk t I R o tp ab n) (h0 : a0 ≤ 200) : ∀ (k a : Nat) (v : Int32), a + k = a0 + 5 → Φ (some (.int (if (dgA (J ab) n k a v).1 = a0 then -1 else (dgA (J ab) n k a v).2))) z t (up2 I 601 o (nI (dgA (J ab) n k a v).1)) R J B → V l D A (rmm 3 0 0) mX6_readDigits (KS D A 0 0 Φ) 0 0 z t (up2 I 601 o (nI a)) R J B 7 [some (va_rf (some o)), some (.int (nI a0)), some (.int v)] [] := by
  intro k
  induction k with
  | zero =>
    intro a v hk q
    rw [dgA] at q
    refine V_aload dX6_readDigits_7 rfl ?_
    refine V_getIs fk_X6_15 dX6_readDigits_8 hr.1 up2s ?_
    refine V_iload dX6_readDigits_11 rfl ?_
    refine V_const dX6_readDigits_12 ?_
    refine V_iadd dX6_readDigits_13 ?_
    rw [show nI a0 + (5 : Int32) = nI (a0 + 5) from nI_add a0 5]
    refine V_icmp_ge dX6_readDigits_14 (fun hc14 => ?_) (fun hc14 => ?_)
    · refine V_aload dX6_readDigits_57 rfl ?_
      refine V_getIs fk_X6_15 dX6_readDigits_58 hr.1 up2s ?_
      refine V_iload dX6_readDigits_61 rfl ?_
      refine V_icmp_ne dX6_readDigits_62 (fun hc62 => ?_) (fun hc62 => ?_)
      · refine V_iload dX6_readDigits_69 rfl ?_
        exact V_iret dX6_readDigits_70 rfl (by decide) (by decide) (by rw [if_neg (show ¬ a = a0 from fun e => hc62 (by rw [e]))] at q; exact q)
      · refine V_const dX6_readDigits_65 ?_
        refine V_goto dX6_readDigits_66 ?_
        exact V_iret dX6_readDigits_70 rfl (by decide) (by decide) (by rw [if_pos (show a = a0 from (nI_eq (by omega) (by omega)).mp hc62)] at q; exact q)
    · exact absurd (nI_le (by omega) (by omega)) hc14
  | succ k ih =>
    intro a v hk q
    rw [dgA] at q
    refine V_aload dX6_readDigits_7 rfl ?_
    refine V_getIs fk_X6_15 dX6_readDigits_8 hr.1 up2s ?_
    refine V_iload dX6_readDigits_11 rfl ?_
    refine V_const dX6_readDigits_12 ?_
    refine V_iadd dX6_readDigits_13 ?_
    rw [show nI a0 + (5 : Int32) = nI (a0 + 5) from nI_add a0 5]
    refine V_icmp_ge dX6_readDigits_14 (fun hc14 => ?_) (fun hc14 => ?_)
    · exact absurd hc14 (nI_ge (by omega) (by omega))
    · refine V_aload dX6_readDigits_17 rfl ?_
      refine V_invV (As := []) mv_X6_here lk_X6_27 dX6_readDigits_18 (c := 6) (by decide) rfl rfl hr.1 rfl rfl (Nat.le_of_ble_eq_true rfl) ⟨⟨by decide, by decide⟩, by decide, by decide⟩ (sem_X6_here hr (by omega) ?_)
      refine V_const dX6_readDigits_21 ?_
      refine V_const dX6_readDigits_23 ?_
      refine V_invSN (As := [_, _, _]) (host := "FleetStores") ms_X11_within (by decide +kernel) dX6_readDigits_25 rfl rfl (Nat.le_of_ble_eq_true rfl) ⟨⟨by decide, by decide⟩, by decide, by decide⟩ (sem_X11_within ?_)
      refine V_if_eq dX6_readDigits_28 (fun hc28 => ?_) (fun hc28 => ?_)
      · rw [bI_0] at hc28
        rw [if_neg hc28] at q
        refine V_aload dX6_readDigits_57 rfl ?_
        refine V_getIs fk_X6_15 dX6_readDigits_58 hr.1 up2s ?_
        refine V_iload dX6_readDigits_61 rfl ?_
        refine V_icmp_ne dX6_readDigits_62 (fun hc62 => ?_) (fun hc62 => ?_)
        · refine V_iload dX6_readDigits_69 rfl ?_
          exact V_iret dX6_readDigits_70 rfl (by decide) (by decide) (by rw [if_neg (show ¬ a = a0 from fun e => hc62 (by rw [e]))] at q; exact q)
        · refine V_const dX6_readDigits_65 ?_
          refine V_goto dX6_readDigits_66 ?_
          exact V_iret dX6_readDigits_70 rfl (by decide) (by decide) (by rw [if_pos (show a = a0 from (nI_eq (by omega) (by omega)).mp hc62)] at q; exact q)
      · rw [bI_n0] at hc28
        rw [if_pos hc28] at q
        refine V_iload dX6_readDigits_31 rfl ?_
        refine V_const dX6_readDigits_32 ?_
        refine V_imul dX6_readDigits_34 ?_
        refine V_aload dX6_readDigits_35 rfl ?_
        refine V_invV (As := []) mv_X6_here lk_X6_27 dX6_readDigits_36 (c := 6) (by decide) rfl rfl hr.1 rfl rfl (Nat.le_of_ble_eq_true rfl) ⟨⟨by decide, by decide⟩, by decide, by decide⟩ (sem_X6_here hr (by omega) ?_)
        refine V_iadd dX6_readDigits_39 ?_
        refine V_const dX6_readDigits_40 ?_
        refine V_isub dX6_readDigits_42 ?_
        refine V_is2 dX6_readDigits_43 (by decide) (noL_i _) ?_
        refine V_aload dX6_readDigits_44 rfl ?_
        refine V_dupr dX6_readDigits_45 ?_
        refine V_getIs fk_X6_15 dX6_readDigits_46 hr.1 up2s ?_
        refine V_const dX6_readDigits_49 ?_
        refine V_iadd dX6_readDigits_50 ?_
        refine V_putI fk_X6_15 (Or.inl rfl) rfl rfl dX6_readDigits_51 hr.1 ?_
        refine V_goto dX6_readDigits_54 ?_
        rw [up2_uu, nI_1]
        exact V.sub (lsS (lsS (lsS ls0))) (ih (a + 1) _ (by omega) q)
theorem sem_X6_readDigits {l : Launch} {D : va_G} {A : Nat → Prop} {z : Nat} {t : TT} {I : MI} {R : MR} {J : MI} {B : MR} {o tp ab n a : Nat}  {Φ : PP} (hr : RdOk t I R o tp ab n) (ha : a ≤ 200) (q : Φ (some (.int (if (dgA (J ab) n 5 a 0).1 = a then -1 else (dgA (J ab) n 5 a 0).2))) z t (up2 I 601 o (nI (dgA (J ab) n 5 a 0).1)) R J B) : Sem l D A 3 0 0 mX6_readDigits [va_rf (some o)] z t (up2 I 601 o (nI a)) R J B Φ := by
  refine Sem.run [some (va_rf (some o)), none, none] (by decide) rfl (ent_r (ent_none (ent_none ent_nil))) ?_
  refine V_aload dX6_readDigits_0 rfl ?_
  refine V_getIs fk_X6_15 dX6_readDigits_1 hr.1 up2s ?_
  refine V_is1 dX6_readDigits_4 (by decide) (noL_r _) ?_
  refine V_const dX6_readDigits_5 ?_
  refine V_is2 dX6_readDigits_6 (by decide) (noL_i _) ?_
  exact lp_X6_digits hr ha 5 a 0 rfl q
/-- a contract's object: its four rows -/
def CoSt (t : TT) (R : MR) (o a0 a1 a2 a3 : Nat) : Prop := (t o).1 = 1 ∧ (R 0 o = some a0 ∧ t a0 = (20, 34)) ∧ (R 1 o = some a1 ∧ t a1 = (20, 34)) ∧ (R 2 o = some a2 ∧ t a2 = (20, 34)) ∧ R 3 o = some a3 ∧ t a3 = (20, 34)
theorem sem_X0_add {l : Launch} {D : va_G} {A : Nat → Prop} {z : Nat} {t : TT} {I : MI} {R : MR} {J : MI} {B : MR} {o a0 a1 a2 a3 c : Nat} {le sg nu am : Int32} {Φ : PP} (ho : CoSt t R o a0 a1 a2 a3) (hc : I 4 o = nI c) (hc2 : c < 34) (q : Φ none z t (up2 I 4 o (nI (c + 1))) R (up2 (up2 (up2 (up2 J a0 c le) a1 c sg) a2 c nu) a3 c am) B) : Sem l D A 0 0 0 mX0_add [va_rf (some o), .int le, .int sg, .int nu, .int am] z t I R J B Φ := by
  refine Sem.run [some (va_rf (some o)), some (.int le), some (.int sg), some (.int nu), some (.int am)] (by decide) rfl (ent_r (ent_i (ent_i (ent_i (ent_i ent_nil))))) ?_
  refine V_aload dX0_add_0 rfl ?_
  refine V_getIs fk_X0_24 dX0_add_1 ho.1 hc ?_
  refine V_const dX0_add_4 ?_
  refine V_icmp_lt dX0_add_6 (fun hc6 => ?_) (fun hc6 => ?_)
  · refine V_aload dX0_add_10 rfl ?_
    refine V_getRs fk_X0_9 dX0_add_11 ho.1 ho.2.1.1 ?_
    refine V_aload dX0_add_14 rfl ?_
    refine V_getIs fk_X0_24 dX0_add_15 ho.1 hc ?_
    refine V_iload dX0_add_18 rfl ?_
    refine V_iast dX0_add_19 ho.2.1.2 rfl hc2 (by decide) ?_
    refine V_aload dX0_add_20 rfl ?_
    refine V_getRs fk_X0_15 dX0_add_21 ho.1 ho.2.2.1.1 ?_
    refine V_aload dX0_add_24 rfl ?_
    refine V_getIs fk_X0_24 dX0_add_25 ho.1 hc ?_
    refine V_iload dX0_add_28 rfl ?_
    refine V_iast dX0_add_29 ho.2.2.1.2 rfl hc2 (by decide) ?_
    refine V_aload dX0_add_30 rfl ?_
    refine V_getRs fk_X0_18 dX0_add_31 ho.1 ho.2.2.2.1.1 ?_
    refine V_aload dX0_add_34 rfl ?_
    refine V_getIs fk_X0_24 dX0_add_35 ho.1 hc ?_
    refine V_iload dX0_add_38 rfl ?_
    refine V_iast dX0_add_39 ho.2.2.2.1.2 rfl hc2 (by decide) ?_
    refine V_aload dX0_add_40 rfl ?_
    refine V_getRs fk_X0_21 dX0_add_41 ho.1 ho.2.2.2.2.1 ?_
    refine V_aload dX0_add_44 rfl ?_
    refine V_getIs fk_X0_24 dX0_add_45 ho.1 hc ?_
    refine V_iload dX0_add_48 rfl ?_
    refine V_iast dX0_add_50 ho.2.2.2.2.2 rfl hc2 (by decide) ?_
    refine V_aload dX0_add_51 rfl ?_
    refine V_dupr dX0_add_52 ?_
    refine V_getIs fk_X0_24 dX0_add_53 ho.1 hc ?_
    refine V_const dX0_add_56 ?_
    refine V_iadd dX0_add_57 ?_
    refine V_putI fk_X0_24 (Or.inl rfl) rfl rfl dX0_add_58 ho.1 ?_
    exact V_vret dX0_add_61 rfl (by decide) (by decide) (by rw [nI_1]; exact q)
  · exact absurd (show nI c < nI 34 from nI_lt hc2 (by decide)) hc6
