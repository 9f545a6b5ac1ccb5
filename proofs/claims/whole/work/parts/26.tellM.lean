-- WHAT THE REFERENCE TELLS
def ltM (J : MI) (m l : Nat) : Nat → Int32 := fun i => match i with
  | 0 => J (m + 6) l
  | 1 => J (m + 7) l
  | 2 => J (m + 8) l
  | 3 => J (m + 9) l
  | 4 => J (m + 10) l
  | 5 => J (m + 11) l
  | 6 => J (m + 12) l
  | _ => J (m + 13) l
theorem sem_X12_lot {l : Launch} {D : va_G} {A : Nat → Prop} {z : Nat} {t : TT} {I : MI} {R : MR} {J : MI} {B : MR} {m n : Nat} {lt w : Int32} {Φ : PP} (hM : MSt m t R) (hn : I 1201 m = nI n) (hn2 : n ≤ 300) (q0 : (∀ i, i < n → lt ≠ nI i) → Φ (some (.int (-1))) z t I R J B) (q1 : ∀ v, v < n → lt = nI v → (∀ i, i < 8 → w ≠ nI i) → Φ (some (.int (-1))) z t I R J B) (q : ∀ v i, v < n → lt = nI v → i < 8 → w = nI i → Φ (some (.int (ltM J m v i))) z t I R J B) : Sem l D A 2 0 0 mX12_lot [va_rf (some m), .int lt, .int w] z t I R J B Φ := by
  refine Sem.run [some (va_rf (some m)), some (.int lt), some (.int w)] (by decide) rfl (ent_r (ent_i (ent_i ent_nil))) ?_
  refine V_aload dX12_lot_0 rfl ?_
  refine V_iload dX12_lot_1 rfl ?_
  refine V_invV (As := [_]) mv_X12_isLot lk_X12_141 dX12_lot_2 (c := 12) (by decide) rfl rfl hM.1 rfl rfl (Nat.le_of_ble_eq_true rfl) ⟨⟨by decide, by decide⟩, by decide, by decide⟩ (sem_X12_isLot hM ?_)
  refine V_if_ne dX12_lot_5 (fun hc5 => ?_) (fun hc5 => ?_)
  · rw [bI_n0, hn] at hc5
    obtain ⟨l0, hl, hvl⟩ := i_rng (i_pred (by omega)) hc5
    refine V_iload dX12_lot_10 rfl ?_
    refine V_tsw (N := 8) (dt := 112) (fun i => match i with | 0 => 56 | 1 => 63 | 2 => 70 | 3 => 77 | 4 => 84 | 5 => 91 | 6 => 98 | _ => 105) dX12_lot_11 (by decide) (by decide) (by decide) (by decide +kernel) (fun i9 hi9 hx9 => ?_) (fun ho9 => ?_)
    · rcases (show i9 = 0 ∨ i9 = 1 ∨ i9 = 2 ∨ i9 = 3 ∨ i9 = 4 ∨ i9 = 5 ∨ i9 = 6 ∨ i9 = 7 by omega) with rfl | rfl | rfl | rfl | rfl | rfl | rfl | rfl
      · refine V_aload dX12_lot_56 rfl ?_
        refine V_getRs fk_X12_25 dX12_lot_57 hM.1 hM.a1210.1 ?_
        refine V_iload dX12_lot_60 rfl ?_
        refine V_iald dX12_lot_61 hM.a1210.2 hvl (by omega) (by decide) ?_
        exact V_iret dX12_lot_62 rfl (by decide) (by decide) (q l0 0 hl hvl hi9 hx9)
      · refine V_aload dX12_lot_63 rfl ?_
        refine V_getRs fk_X12_28 dX12_lot_64 hM.1 hM.a1211.1 ?_
        refine V_iload dX12_lot_67 rfl ?_
        refine V_iald dX12_lot_68 hM.a1211.2 hvl (by omega) (by decide) ?_
        exact V_iret dX12_lot_69 rfl (by decide) (by decide) (q l0 1 hl hvl hi9 hx9)
      · refine V_aload dX12_lot_70 rfl ?_
        refine V_getRs fk_X12_31 dX12_lot_71 hM.1 hM.a1212.1 ?_
        refine V_iload dX12_lot_74 rfl ?_
        refine V_iald dX12_lot_75 hM.a1212.2 hvl (by omega) (by decide) ?_
        exact V_iret dX12_lot_76 rfl (by decide) (by decide) (q l0 2 hl hvl hi9 hx9)
      · refine V_aload dX12_lot_77 rfl ?_
        refine V_getRs fk_X12_34 dX12_lot_78 hM.1 hM.a1213.1 ?_
        refine V_iload dX12_lot_81 rfl ?_
        refine V_iald dX12_lot_82 hM.a1213.2 hvl (by omega) (by decide) ?_
        exact V_iret dX12_lot_83 rfl (by decide) (by decide) (q l0 3 hl hvl hi9 hx9)
      · refine V_aload dX12_lot_84 rfl ?_
        refine V_getRs fk_X12_37 dX12_lot_85 hM.1 hM.a1214.1 ?_
        refine V_iload dX12_lot_88 rfl ?_
        refine V_iald dX12_lot_89 hM.a1214.2 hvl (by omega) (by decide) ?_
        exact V_iret dX12_lot_90 rfl (by decide) (by decide) (q l0 4 hl hvl hi9 hx9)
      · refine V_aload dX12_lot_91 rfl ?_
        refine V_getRs fk_X12_40 dX12_lot_92 hM.1 hM.a1215.1 ?_
        refine V_iload dX12_lot_95 rfl ?_
        refine V_iald dX12_lot_96 hM.a1215.2 hvl (by omega) (by decide) ?_
        exact V_iret dX12_lot_97 rfl (by decide) (by decide) (q l0 5 hl hvl hi9 hx9)
      · refine V_aload dX12_lot_98 rfl ?_
        refine V_getRs fk_X12_43 dX12_lot_99 hM.1 hM.a1216.1 ?_
        refine V_iload dX12_lot_102 rfl ?_
        refine V_iald dX12_lot_103 hM.a1216.2 hvl (by omega) (by decide) ?_
        exact V_iret dX12_lot_104 rfl (by decide) (by decide) (q l0 6 hl hvl hi9 hx9)
      · refine V_aload dX12_lot_105 rfl ?_
        refine V_getRs fk_X12_46 dX12_lot_106 hM.1 hM.a1217.1 ?_
        refine V_iload dX12_lot_109 rfl ?_
        refine V_iald dX12_lot_110 hM.a1217.2 hvl (by omega) (by decide) ?_
        exact V_iret dX12_lot_111 rfl (by decide) (by decide) (q l0 7 hl hvl hi9 hx9)
    · refine V_const dX12_lot_112 ?_
      exact V_iret dX12_lot_113 rfl (by decide) (by decide) (q1 l0 hl hvl ho9)
  · rw [bI_0, hn] at hc5
    refine V_const dX12_lot_8 ?_
    exact V_iret dX12_lot_9 rfl (by decide) (by decide) (q0 (i_out (i_pred (by omega)) (by omega) hc5))
theorem sem_X12_condemned {l : Launch} {D : va_G} {A : Nat → Prop} {z : Nat} {t : TT} {I : MI} {R : MR} {J : MI} {B : MR} {m n : Nat} {lt : Int32} {Φ : PP} (hM : MSt m t R) (hn : I 1201 m = nI n) (hn2 : n ≤ 300) (q0 : (∀ i, i < n → lt ≠ nI i) → Φ (some (.int 0)) z t I R J B) (q : ∀ v, v < n → lt = nI v → Φ (some (.int (J (m + 18) v))) z t I R J B) : Sem l D A 2 0 0 mX12_condemned [va_rf (some m), .int lt] z t I R J B Φ := by
  refine Sem.run [some (va_rf (some m)), some (.int lt)] (by decide) rfl (ent_r (ent_i ent_nil)) ?_
  refine V_aload dX12_condemned_0 rfl ?_
  refine V_iload dX12_condemned_1 rfl ?_
  refine V_invV (As := [_]) mv_X12_isLot lk_X12_141 dX12_condemned_2 (c := 12) (by decide) rfl rfl hM.1 rfl rfl (Nat.le_of_ble_eq_true rfl) ⟨⟨by decide, by decide⟩, by decide, by decide⟩ (sem_X12_isLot hM ?_)
  refine V_if_eq dX12_condemned_5 (fun hc5 => ?_) (fun hc5 => ?_)
  · rw [bI_0, hn] at hc5
    refine V_const dX12_condemned_17 ?_
    exact V_iret dX12_condemned_18 rfl (by decide) (by decide) (q0 (i_out (i_pred (by omega)) (by omega) hc5))
  · rw [bI_n0, hn] at hc5
    obtain ⟨l0, hl, hvl⟩ := i_rng (i_pred (by omega)) hc5
    refine V_aload dX12_condemned_8 rfl ?_
    refine V_getRs fk_X12_61 dX12_condemned_9 hM.1 hM.a1222.1 ?_
    refine V_iload dX12_condemned_12 rfl ?_
    refine V_iald dX12_condemned_13 hM.a1222.2 hvl (by omega) (by decide) ?_
    refine V_goto dX12_condemned_14 ?_
    exact V_iret dX12_condemned_18 rfl (by decide) (by decide) (q l0 hl hvl)
theorem sem_X12_due {l : Launch} {D : va_G} {A : Nat → Prop} {z : Nat} {t : TT} {I : MI} {R : MR} {J : MI} {B : MR} {m n : Nat} {lt : Int32} {Φ : PP} (hM : MSt m t R) (hn : I 1201 m = nI n) (hn2 : n ≤ 300) (q0 : (∀ i, i < n → lt ≠ nI i) → Φ (some (.int 0)) z t I R J B) (q : ∀ v, v < n → lt = nI v → Φ (some (.int (if J (m + 16) v = -1 then 0 else J (m + 17) v))) z t I R J B) : Sem l D A 2 0 0 mX12_due [va_rf (some m), .int lt] z t I R J B Φ := by
  refine Sem.run [some (va_rf (some m)), some (.int lt)] (by decide) rfl (ent_r (ent_i ent_nil)) ?_
  refine V_aload dX12_due_0 rfl ?_
  refine V_iload dX12_due_1 rfl ?_
  refine V_invV (As := [_]) mv_X12_isLot lk_X12_141 dX12_due_2 (c := 12) (by decide) rfl rfl hM.1 rfl rfl (Nat.le_of_ble_eq_true rfl) ⟨⟨by decide, by decide⟩, by decide, by decide⟩ (sem_X12_isLot hM ?_)
  refine V_if_eq dX12_due_5 (fun hc5 => ?_) (fun hc5 => ?_)
  · rw [bI_0, hn] at hc5
    refine V_const dX12_due_27 ?_
    exact V_iret dX12_due_28 rfl (by decide) (by decide) (q0 (i_out (i_pred (by omega)) (by omega) hc5))
  · rw [bI_n0, hn] at hc5
    obtain ⟨l0, hl, hvl⟩ := i_rng (i_pred (by omega)) hc5
    refine V_aload dX12_due_8 rfl ?_
    refine V_getRs fk_X12_55 dX12_due_9 hM.1 hM.a1220.1 ?_
    refine V_iload dX12_due_12 rfl ?_
    refine V_iald dX12_due_13 hM.a1220.2 hvl (by omega) (by decide) ?_
    refine V_const dX12_due_14 ?_
    refine V_icmp_eq dX12_due_15 (fun hc15 => ?_) (fun hc15 => ?_)
    · refine V_const dX12_due_27 ?_
      exact V_iret dX12_due_28 rfl (by decide) (by decide) (by have h9 := q l0 hl hvl; rw [if_pos hc15] at h9; exact h9)
    · refine V_aload dX12_due_18 rfl ?_
      refine V_getRs fk_X12_58 dX12_due_19 hM.1 hM.a1221.1 ?_
      refine V_iload dX12_due_22 rfl ?_
      refine V_iald dX12_due_23 hM.a1221.2 hvl (by omega) (by decide) ?_
      refine V_goto dX12_due_24 ?_
      exact V_iret dX12_due_28 rfl (by decide) (by decide) (by have h9 := q l0 hl hvl; rw [if_neg hc15] at h9; exact h9)
def owM (J : MI) (m : Nat) (mk : Int32) (l : Nat) (s : Int32) : Int32 := s + (if J (m + 6) l = mk ∧ J (m + 16) l ≠ -1 then J (m + 17) l else 0)
theorem lp_X12_owed {l : Launch} {D : va_G} {A : Nat → Prop} {z : Nat} {t : TT} {I : MI} {R : MR} {J : MI} {B : MR} {m N : Nat} {mk : Int32} {Φ : PP} (hM : MSt m t R) (hN : I 1201 m = nI N) (hN2 : N ≤ 300) : ∀ (n i : Nat) (s : Int32), i + n = N → Φ (some (.int (itr (owM J m mk) i n s))) z t I R J B → V l D A (rmm 0 0 0) mX12_owed (KS D A 0 0 Φ) 0 0 z t I R J B 4 [some (va_rf (some m)), some (.int mk), some (.int s), some (.int (nI i))] [] := by
  intro n
  induction n with
  | zero =>
    intro i s hin q
    have hi : i = N := by omega
    subst hi
    refine V_iload dX12_owed_4 rfl ?_
    refine V_aload dX12_owed_5 rfl ?_
    refine V_getIs fk_X12_126 dX12_owed_6 hM.1 hN ?_
    refine V_icmp_ge dX12_owed_9 (fun hc9 => ?_) (fun hc9 => ?_)
    · refine V_iload dX12_owed_51 rfl ?_
      exact V_iret dX12_owed_52 rfl (by decide) (by decide) q
    · exact absurd (Int32.le_refl _) hc9
  | succ n ih =>
    intro i s hin q
    refine V_iload dX12_owed_4 rfl ?_
    refine V_aload dX12_owed_5 rfl ?_
    refine V_getIs fk_X12_126 dX12_owed_6 hM.1 hN ?_
    refine V_icmp_ge dX12_owed_9 (fun hc9 => ?_) (fun hc9 => ?_)
    · exact absurd hc9 (nI_ge (by omega) (by omega))
    · refine V_iload dX12_owed_12 rfl ?_
      refine V_aload dX12_owed_13 rfl ?_
      refine V_getRs fk_X12_25 dX12_owed_14 hM.1 hM.a1210.1 ?_
      refine V_iload dX12_owed_17 rfl ?_
      refine V_iald dX12_owed_18 hM.a1210.2 rfl (by omega) (by decide) ?_
      refine V_iload dX12_owed_19 rfl ?_
      refine V_icmp_ne dX12_owed_20 (fun hc20 => ?_) (fun hc20 => ?_)
      · refine V_const dX12_owed_42 ?_
        refine V_iadd dX12_owed_43 ?_
        refine V_is2 dX12_owed_44 (by decide) (noL_i _) ?_
        refine V_ii3 dX12_owed_45 (by decide) (noL_i _) ?_
        refine V_goto dX12_owed_48 ?_
        exact V.sub (lsS (lsS (lsS (lsE (by rw [nI_1]) ls0)))) (ih (i + 1) _ (by omega) (by rw [itr] at q; unfold owM at q; rw [if_neg (fun h => hc20 h.1)] at q; exact q))
      · refine V_aload dX12_owed_23 rfl ?_
        refine V_getRs fk_X12_55 dX12_owed_24 hM.1 hM.a1220.1 ?_
        refine V_iload dX12_owed_27 rfl ?_
        refine V_iald dX12_owed_28 hM.a1220.2 rfl (by omega) (by decide) ?_
        refine V_const dX12_owed_29 ?_
        refine V_icmp_eq dX12_owed_30 (fun hc30 => ?_) (fun hc30 => ?_)
        · refine V_const dX12_owed_42 ?_
          refine V_iadd dX12_owed_43 ?_
          refine V_is2 dX12_owed_44 (by decide) (noL_i _) ?_
          refine V_ii3 dX12_owed_45 (by decide) (noL_i _) ?_
          refine V_goto dX12_owed_48 ?_
          exact V.sub (lsS (lsS (lsS (lsE (by rw [nI_1]) ls0)))) (ih (i + 1) _ (by omega) (by rw [itr] at q; unfold owM at q; rw [if_neg (fun h => h.2 hc30)] at q; exact q))
        · refine V_aload dX12_owed_33 rfl ?_
          refine V_getRs fk_X12_58 dX12_owed_34 hM.1 hM.a1221.1 ?_
          refine V_iload dX12_owed_37 rfl ?_
          refine V_iald dX12_owed_38 hM.a1221.2 rfl (by omega) (by decide) ?_
          refine V_goto dX12_owed_39 ?_
          refine V_iadd dX12_owed_43 ?_
          refine V_is2 dX12_owed_44 (by decide) (noL_i _) ?_
          refine V_ii3 dX12_owed_45 (by decide) (noL_i _) ?_
          refine V_goto dX12_owed_48 ?_
          exact V.sub (lsS (lsS (lsS (lsE (by rw [nI_1]) ls0)))) (ih (i + 1) _ (by omega) (by rw [itr] at q; unfold owM at q; rw [if_pos ⟨hc20, hc30⟩] at q; exact q))
theorem sem_X12_owed {l : Launch} {D : va_G} {A : Nat → Prop} {z : Nat} {t : TT} {I : MI} {R : MR} {J : MI} {B : MR} {m N : Nat} {mk : Int32} {Φ : PP} (hM : MSt m t R) (hN : I 1201 m = nI N) (hN2 : N ≤ 300) (q : Φ (some (.int (itr (owM J m mk) 0 N 0))) z t I R J B) : Sem l D A 0 0 0 mX12_owed [va_rf (some m), .int mk] z t I R J B Φ := by
  refine Sem.run [some (va_rf (some m)), some (.int mk), none, none] (by decide) rfl (ent_r (ent_i (ent_none (ent_none ent_nil)))) ?_
  refine V_const dX12_owed_0 ?_
  refine V_is2 dX12_owed_1 (by decide) (noL_i _) ?_
  refine V_const dX12_owed_2 ?_
  refine V_is3 dX12_owed_3 (by decide) (noL_i _) ?_
  exact lp_X12_owed hM hN hN2 N 0 0 (by omega) q
theorem sem_X12_stock {l : Launch} {D : va_G} {A : Nat → Prop} {z : Nat} {t : TT} {I : MI} {R : MR} {J : MI} {B : MR} {m N : Nat} {p k : Int32} {Φ : PP} (hM : MSt m t R) (hN : I 1201 m = nI N) (hN2 : N ≤ 300) (q0 : ¬ (0 ≤ p ∧ p ≤ 7 ∧ 0 ≤ k ∧ k ≤ 3) → Φ (some (.int (-1))) z t I R J B) (q : ∀ i j, i < 8 → j < 4 → p = nI i → k = nI j → Φ (some (.int (itr (stkM J m p k) 0 N 0))) z t I R J B) : Sem l D A 2 0 0 mX12_stock [va_rf (some m), .int p, .int k] z t I R J B Φ := by
  refine Sem.run [some (va_rf (some m)), some (.int p), some (.int k)] (by decide) rfl (ent_r (ent_i (ent_i ent_nil))) ?_
  refine V_iload dX12_stock_0 rfl ?_
  refine V_invS (As := [_]) ms_X12_isPlace lk_X12_119 dX12_stock_1 rfl rfl rfl (Nat.le_of_ble_eq_true rfl) ⟨⟨by decide, by decide⟩, by decide, by decide⟩ (sem_X12_isPlace ?_)
  refine V_if_eq dX12_stock_4 (fun hc4 => ?_) (fun hc4 => ?_)
  · rw [bI_0] at hc4
    refine V_const dX12_stock_23 ?_
    exact V_iret dX12_stock_24 rfl (by decide) (by decide) (q0 (fun h => hc4 ⟨h.1, h.2.1⟩))
  · rw [bI_n0] at hc4
    obtain ⟨i, hi, hvi⟩ := i_rng (N := 8) rfl hc4
    refine V_iload dX12_stock_7 rfl ?_
    refine V_invS (As := [_]) ms_X12_isKind lk_X12_123 dX12_stock_8 rfl rfl rfl (Nat.le_of_ble_eq_true rfl) ⟨⟨by decide, by decide⟩, by decide, by decide⟩ (sem_X12_isKind ?_)
    refine V_if_eq dX12_stock_11 (fun hc11 => ?_) (fun hc11 => ?_)
    · rw [bI_0] at hc11
      refine V_const dX12_stock_23 ?_
      exact V_iret dX12_stock_24 rfl (by decide) (by decide) (q0 (fun h => hc11 ⟨h.2.2.1, h.2.2.2⟩))
    · rw [bI_n0] at hc11
      obtain ⟨j, hj, hvj⟩ := i_rng (N := 4) rfl hc11
      refine V_aload dX12_stock_14 rfl ?_
      refine V_iload dX12_stock_15 rfl ?_
      refine V_iload dX12_stock_16 rfl ?_
      refine V_invV (As := [_, _]) mv_X12_stockOf lk_X12_158 dX12_stock_17 (c := 12) (by decide) rfl rfl hM.1 rfl rfl (Nat.le_of_ble_eq_true rfl) ⟨⟨by decide, by decide⟩, by decide, by decide⟩ (sem_X12_stockOf hM hN hN2 ?_)
      refine V_goto dX12_stock_20 ?_
      exact V_iret dX12_stock_24 rfl (by decide) (by decide) (q i j hi hj hvi hvj)
theorem sem_X12_open {l : Launch} {D : va_G} {A : Nat → Prop} {z : Nat} {t : TT} {I : MI} {R : MR} {J : MI} {B : MR} {m : Nat} {p k : Int32} {Φ : PP} (hM : MSt m t R) (q0 : ¬ (0 ≤ p ∧ p ≤ 7 ∧ 0 ≤ k ∧ k ≤ 3) → Φ (some (.int (-1))) z t I R J B) (q : ∀ i j, i < 8 → j < 4 → p = nI i → k = nI j → Φ (some (.int (J (m + 19) (4 * i + j)))) z t I R J B) : Sem l D A 2 0 0 mX12_open [va_rf (some m), .int p, .int k] z t I R J B Φ := by
  refine Sem.run [some (va_rf (some m)), some (.int p), some (.int k)] (by decide) rfl (ent_r (ent_i (ent_i ent_nil))) ?_
  refine V_iload dX12_open_0 rfl ?_
  refine V_invS (As := [_]) ms_X12_isPlace lk_X12_119 dX12_open_1 rfl rfl rfl (Nat.le_of_ble_eq_true rfl) ⟨⟨by decide, by decide⟩, by decide, by decide⟩ (sem_X12_isPlace ?_)
  refine V_if_eq dX12_open_4 (fun hc4 => ?_) (fun hc4 => ?_)
  · rw [bI_0] at hc4
    refine V_const dX12_open_27 ?_
    exact V_iret dX12_open_28 rfl (by decide) (by decide) (q0 (fun h => hc4 ⟨h.1, h.2.1⟩))
  · rw [bI_n0] at hc4
    obtain ⟨i, hi, hvi⟩ := i_rng (N := 8) rfl hc4
    refine V_iload dX12_open_7 rfl ?_
    refine V_invS (As := [_]) ms_X12_isKind lk_X12_123 dX12_open_8 rfl rfl rfl (Nat.le_of_ble_eq_true rfl) ⟨⟨by decide, by decide⟩, by decide, by decide⟩ (sem_X12_isKind ?_)
    refine V_if_eq dX12_open_11 (fun hc11 => ?_) (fun hc11 => ?_)
    · rw [bI_0] at hc11
      refine V_const dX12_open_27 ?_
      exact V_iret dX12_open_28 rfl (by decide) (by decide) (q0 (fun h => hc11 ⟨h.2.2.1, h.2.2.2⟩))
    · rw [bI_n0] at hc11
      obtain ⟨j, hj, hvj⟩ := i_rng (N := 4) rfl hc11
      refine V_aload dX12_open_14 rfl ?_
      refine V_getRs fk_X12_64 dX12_open_15 hM.1 hM.a1223.1 ?_
      refine V_const dX12_open_18 ?_
      refine V_iload dX12_open_19 rfl ?_
      refine V_imul dX12_open_20 ?_
      refine V_iload dX12_open_21 rfl ?_
      refine V_iadd dX12_open_22 ?_
      refine V_iald dX12_open_23 hM.a1223.2 (i := 4 * i + j) (by rw [hvi, hvj, show (4 : Int32) = nI 4 from rfl, pk_mul, nI_add]) (by omega) (by decide) ?_
      refine V_goto dX12_open_24 ?_
      exact V_iret dX12_open_28 rfl (by decide) (by decide) (q i j hi hj hvi hvj)
theorem sem_X12_lacks {l : Launch} {D : va_G} {A : Nat → Prop} {z : Nat} {t : TT} {I : MI} {R : MR} {J : MI} {B : MR} {m : Nat} {p k : Int32} {Φ : PP} (hM : MSt m t R) (q0 : ¬ (0 ≤ p ∧ p ≤ 7 ∧ 0 ≤ k ∧ k ≤ 3) → Φ (some (.int (-1))) z t I R J B) (q : ∀ i j, i < 8 → j < 4 → p = nI i → k = nI j → Φ (some (.int (J (m + 20) (4 * i + j)))) z t I R J B) : Sem l D A 2 0 0 mX12_lacks [va_rf (some m), .int p, .int k] z t I R J B Φ := by
  refine Sem.run [some (va_rf (some m)), some (.int p), some (.int k)] (by decide) rfl (ent_r (ent_i (ent_i ent_nil))) ?_
  refine V_iload dX12_lacks_0 rfl ?_
  refine V_invS (As := [_]) ms_X12_isPlace lk_X12_119 dX12_lacks_1 rfl rfl rfl (Nat.le_of_ble_eq_true rfl) ⟨⟨by decide, by decide⟩, by decide, by decide⟩ (sem_X12_isPlace ?_)
  refine V_if_eq dX12_lacks_4 (fun hc4 => ?_) (fun hc4 => ?_)
  · rw [bI_0] at hc4
    refine V_const dX12_lacks_27 ?_
    exact V_iret dX12_lacks_28 rfl (by decide) (by decide) (q0 (fun h => hc4 ⟨h.1, h.2.1⟩))
  · rw [bI_n0] at hc4
    obtain ⟨i, hi, hvi⟩ := i_rng (N := 8) rfl hc4
    refine V_iload dX12_lacks_7 rfl ?_
    refine V_invS (As := [_]) ms_X12_isKind lk_X12_123 dX12_lacks_8 rfl rfl rfl (Nat.le_of_ble_eq_true rfl) ⟨⟨by decide, by decide⟩, by decide, by decide⟩ (sem_X12_isKind ?_)
    refine V_if_eq dX12_lacks_11 (fun hc11 => ?_) (fun hc11 => ?_)
    · rw [bI_0] at hc11
      refine V_const dX12_lacks_27 ?_
      exact V_iret dX12_lacks_28 rfl (by decide) (by decide) (q0 (fun h => hc11 ⟨h.2.2.1, h.2.2.2⟩))
    · rw [bI_n0] at hc11
      obtain ⟨j, hj, hvj⟩ := i_rng (N := 4) rfl hc11
      refine V_aload dX12_lacks_14 rfl ?_
      refine V_getRs fk_X12_67 dX12_lacks_15 hM.1 hM.a1224.1 ?_
      refine V_const dX12_lacks_18 ?_
      refine V_iload dX12_lacks_19 rfl ?_
      refine V_imul dX12_lacks_20 ?_
      refine V_iload dX12_lacks_21 rfl ?_
      refine V_iadd dX12_lacks_22 ?_
      refine V_iald dX12_lacks_23 hM.a1224.2 (i := 4 * i + j) (by rw [hvi, hvj, show (4 : Int32) = nI 4 from rfl, pk_mul, nI_add]) (by omega) (by decide) ?_
      refine V_goto dX12_lacks_24 ?_
      exact V_iret dX12_lacks_28 rfl (by decide) (by decide) (q i j hi hj hvi hvj)
theorem sem_X12_began {l : Launch} {D : va_G} {A : Nat → Prop} {z : Nat} {t : TT} {I : MI} {R : MR} {J : MI} {B : MR} {m w : Nat} {p k v : Int32} {Φ : PP} (hM : MSt m t R) (hw : I 1200 m = nI w) (hw2 : w ≤ 200) (q0 : ¬ (0 ≤ p ∧ p ≤ 7 ∧ 0 ≤ k ∧ k ≤ 3) → Φ (some (.int (-1))) z t I R J B) (q1 : (∀ i, i ≤ w → v ≠ nI i) → Φ (some (.int (-1))) z t I R J B) (q : ∀ i j u, i < 8 → j < 4 → p = nI i → k = nI j → u ≤ w → v = nI u → Φ (some (.int (J (m + 22) (32 * u + 4 * i + j)))) z t I R J B) : Sem l D A 2 0 0 mX12_began [va_rf (some m), .int p, .int k, .int v] z t I R J B Φ := by
  refine Sem.run [some (va_rf (some m)), some (.int p), some (.int k), some (.int v)] (by decide) rfl (ent_r (ent_i (ent_i (ent_i ent_nil)))) ?_
  refine V_iload dX12_began_0 rfl ?_
  refine V_invS (As := [_]) ms_X12_isPlace lk_X12_119 dX12_began_1 rfl rfl rfl (Nat.le_of_ble_eq_true rfl) ⟨⟨by decide, by decide⟩, by decide, by decide⟩ (sem_X12_isPlace ?_)
  refine V_if_eq dX12_began_4 (fun hc4 => ?_) (fun hc4 => ?_)
  · rw [bI_0] at hc4
    refine V_const dX12_began_44 ?_
    exact V_iret dX12_began_45 rfl (by decide) (by decide) (q0 (fun h => hc4 ⟨h.1, h.2.1⟩))
  · rw [bI_n0] at hc4
    obtain ⟨i, hi, hvi⟩ := i_rng (N := 8) rfl hc4
    refine V_iload dX12_began_7 rfl ?_
    refine V_invS (As := [_]) ms_X12_isKind lk_X12_123 dX12_began_8 rfl rfl rfl (Nat.le_of_ble_eq_true rfl) ⟨⟨by decide, by decide⟩, by decide, by decide⟩ (sem_X12_isKind ?_)
    refine V_if_eq dX12_began_11 (fun hc11 => ?_) (fun hc11 => ?_)
    · rw [bI_0] at hc11
      refine V_const dX12_began_44 ?_
      exact V_iret dX12_began_45 rfl (by decide) (by decide) (q0 (fun h => hc11 ⟨h.2.2.1, h.2.2.2⟩))
    · rw [bI_n0] at hc11
      obtain ⟨j, hj, hvj⟩ := i_rng (N := 4) rfl hc11
      refine V_iload dX12_began_14 rfl ?_
      refine V_const dX12_began_15 ?_
      refine V_aload dX12_began_16 rfl ?_
      refine V_getIs fk_X12_131 dX12_began_17 hM.1 hw ?_
      refine V_invS (As := [_, _, _]) ms_X12_in lk_X12_115 dX12_began_20 rfl rfl rfl (Nat.le_of_ble_eq_true rfl) ⟨⟨by decide, by decide⟩, by decide, by decide⟩ (sem_X12_in ?_)
      refine V_if_eq dX12_began_23 (fun hc23 => ?_) (fun hc23 => ?_)
      · rw [bI_0] at hc23
        refine V_const dX12_began_44 ?_
        exact V_iret dX12_began_45 rfl (by decide) (by decide) (q1 (fun i hi => i_out (N := w + 1) (by rw [nI_toInt (by omega)]; omega) (by omega) hc23 i (by omega)))
      · rw [bI_n0] at hc23
        obtain ⟨u, hu, hvu⟩ := i_rng (N := w + 1) (by rw [nI_toInt (by omega)]; omega) hc23
        refine V_aload dX12_began_26 rfl ?_
        refine V_getRs fk_X12_73 dX12_began_27 hM.1 hM.a1226.1 ?_
        refine V_const dX12_began_30 ?_
        refine V_iload dX12_began_32 rfl ?_
        refine V_imul dX12_began_33 ?_
        refine V_const dX12_began_34 ?_
        refine V_iload dX12_began_35 rfl ?_
        refine V_imul dX12_began_36 ?_
        refine V_iadd dX12_began_37 ?_
        refine V_iload dX12_began_38 rfl ?_
        refine V_iadd dX12_began_39 ?_
        refine V_iald dX12_began_40 hM.a1226.2 (i := 32 * u + 4 * i + j) (by rw [hvu, hvi, hvj, show (4 : Int32) = nI 4 from rfl, show (32 : Int32) = nI 32 from rfl, pk_mul, pk_mul, nI_add, nI_add]) (by omega) (by decide) ?_
        refine V_goto dX12_began_41 ?_
        exact V_iret dX12_began_45 rfl (by decide) (by decide) (q i j u hi hj hvi hvj (by omega) hvu)
theorem sem_X12_known {l : Launch} {D : va_G} {A : Nat → Prop} {z : Nat} {t : TT} {I : MI} {R : MR} {J : MI} {B : MR} {m w : Nat} {p k v : Int32} {lg : Nat → Nat} {Φ : PP} (hM : MSt m t R) (hw : I 1200 m = nI w) (hw2 : w ≤ 200) (hlg : ∀ i, i < 8 → J (m + 5) i = nI (lg i) ∧ lg i ≤ 30) (q0 : ¬ (0 ≤ p ∧ p ≤ 7 ∧ 0 ≤ k ∧ k ≤ 3) → Φ (some (.int (-1))) z t I R J B) (q1 : ¬ (0 ≤ v ∧ v ≤ nI w) → Φ (some (.int (-1))) z t I R J B) (q2 : ∀ i u, i < 8 → p = nI i → u ≤ w → v = nI u → u < lg i → Φ (some (.int (-1))) z t I R J B) (q : ∀ i j u, i < 8 → j < 4 → p = nI i → k = nI j → u ≤ w → v = nI u → lg i ≤ u → Φ (some (.int (J (m + 22) (32 * (u - lg i) + 4 * i + j)))) z t I R J B) : Sem l D A 2 0 0 mX12_known [va_rf (some m), .int p, .int k, .int v] z t I R J B Φ := by
  refine Sem.run [some (va_rf (some m)), some (.int p), some (.int k), some (.int v)] (by decide) rfl (ent_r (ent_i (ent_i (ent_i ent_nil)))) ?_
  refine V_iload dX12_known_0 rfl ?_
  refine V_invS (As := [_]) ms_X12_isPlace lk_X12_119 dX12_known_1 rfl rfl rfl (Nat.le_of_ble_eq_true rfl) ⟨⟨by decide, by decide⟩, by decide, by decide⟩ (sem_X12_isPlace ?_)
  refine V_if_eq dX12_known_4 (fun hc4 => ?_) (fun hc4 => ?_)
  · rw [bI_0] at hc4
    refine V_const dX12_known_36 ?_
    exact V_iret dX12_known_37 rfl (by decide) (by decide) (q0 (fun h => hc4 ⟨h.1, h.2.1⟩))
  · rw [bI_n0] at hc4
    obtain ⟨i, hi, hvi⟩ := i_rng (N := 8) rfl hc4
    refine V_iload dX12_known_7 rfl ?_
    refine V_invS (As := [_]) ms_X12_isKind lk_X12_123 dX12_known_8 rfl rfl rfl (Nat.le_of_ble_eq_true rfl) ⟨⟨by decide, by decide⟩, by decide, by decide⟩ (sem_X12_isKind ?_)
    refine V_if_eq dX12_known_11 (fun hc11 => ?_) (fun hc11 => ?_)
    · rw [bI_0] at hc11
      refine V_const dX12_known_36 ?_
      exact V_iret dX12_known_37 rfl (by decide) (by decide) (q0 (fun h => hc11 ⟨h.2.2.1, h.2.2.2⟩))
    · rw [bI_n0] at hc11
      obtain ⟨j, hj, hvj⟩ := i_rng (N := 4) rfl hc11
      refine V_iload dX12_known_14 rfl ?_
      refine V_const dX12_known_15 ?_
      refine V_aload dX12_known_16 rfl ?_
      refine V_getIs fk_X12_131 dX12_known_17 hM.1 hw ?_
      refine V_invS (As := [_, _, _]) ms_X12_in lk_X12_115 dX12_known_20 rfl rfl rfl (Nat.le_of_ble_eq_true rfl) ⟨⟨by decide, by decide⟩, by decide, by decide⟩ (sem_X12_in ?_)
      refine V_if_eq dX12_known_23 (fun hc23 => ?_) (fun hc23 => ?_)
      · rw [bI_0] at hc23
        refine V_const dX12_known_36 ?_
        exact V_iret dX12_known_37 rfl (by decide) (by decide) (q1 hc23)
      · rw [bI_n0] at hc23
        obtain ⟨u, hu, hvu⟩ := i_rng (N := w + 1) (by rw [nI_toInt (by omega)]; omega) hc23
        refine V_iload dX12_known_26 rfl ?_
        refine V_aload dX12_known_27 rfl ?_
        refine V_getRs fk_X12_22 dX12_known_28 hM.1 hM.a1209.1 ?_
        refine V_iload dX12_known_31 rfl ?_
        refine V_ialds dX12_known_32 hM.a1209.2 hvi hi (by decide) (hlg i hi).1 ?_
        refine V_icmp_ge dX12_known_33 (fun hc33 => ?_) (fun hc33 => ?_)
        · have hle : lg i ≤ u := (nI_leI (by have := (hlg i hi).2; omega) (by omega)).mp (by rw [← hvu]; exact hc33)
          refine V_aload dX12_known_38 rfl ?_
          refine V_getRs fk_X12_73 dX12_known_39 hM.1 hM.a1226.1 ?_
          refine V_const dX12_known_42 ?_
          refine V_iload dX12_known_44 rfl ?_
          refine V_aload dX12_known_45 rfl ?_
          refine V_getRs fk_X12_22 dX12_known_46 hM.1 hM.a1209.1 ?_
          refine V_iload dX12_known_49 rfl ?_
          refine V_ialds dX12_known_50 hM.a1209.2 hvi hi (by decide) (hlg i hi).1 ?_
          refine V_isub dX12_known_51 ?_
          refine V_imul dX12_known_52 ?_
          refine V_const dX12_known_53 ?_
          refine V_iload dX12_known_54 rfl ?_
          refine V_imul dX12_known_55 ?_
          refine V_iadd dX12_known_56 ?_
          refine V_iload dX12_known_57 rfl ?_
          refine V_iadd dX12_known_58 ?_
          refine V_iald dX12_known_59 hM.a1226.2 (i := 32 * (u - lg i) + 4 * i + j) (by rw [hvu, hvi, hvj, pk_sub hle, show (4 : Int32) = nI 4 from rfl, show (32 : Int32) = nI 32 from rfl, pk_mul, pk_mul, nI_add, nI_add]) (by omega) (by decide) ?_
          exact V_iret dX12_known_60 rfl (by decide) (by decide) (q i j u hi hj hvi hvj (by omega) hvu hle)
        · have hlt3 : u < lg i := by
            rcases Nat.lt_or_ge u (lg i) with h | h
            · exact h
            · exact absurd (by rw [hvu]; exact nI_le h (by omega)) hc33
          refine V_const dX12_known_36 ?_
          exact V_iret dX12_known_37 rfl (by decide) (by decide) (q2 i u hi hvi (by omega) hvu hlt3)
def cnM (m : Nat) (I : MI) (th lo : Int32) : Nat → Int32 := fun i => match i with
  | 0 => I 1200 m
  | 1 => I 1201 m
  | 2 => I 1202 m
  | 3 => th
  | 4 => lo
  | 5 => I 1203 m
  | 6 => I 1204 m
  | _ => I 1231 m
def smM (J : MI) (a : Nat) (l : Nat) (s : Int32) : Int32 := s + J a l
theorem lp_X12_count {l : Launch} {D : va_G} {A : Nat → Prop} {z : Nat} {t : TT} {I : MI} {R : MR} {J : MI} {B : MR} {m N : Nat} {v : Int32} {Φ : PP} (hM : MSt m t R) (hN : I 1201 m = nI N) (hN2 : N ≤ 300) : ∀ (n i : Nat) (s u : Int32), i + n = N → V l D A (rmm 0 0 0) mX12_count (KS D A 0 0 Φ) 0 0 z t I R J B 42 [some (va_rf (some m)), some (.int v), some (.int (itr (smM J (m + 9)) i n s)), some (.int (itr (smM J (m + 18)) i n u)), none] [] → V l D A (rmm 0 0 0) mX12_count (KS D A 0 0 Φ) 0 0 z t I R J B 7 [some (va_rf (some m)), some (.int v), some (.int s), some (.int u), some (.int (nI i))] [] := by
  intro n
  induction n with
  | zero =>
    intro i s u hin q
    have hi : i = N := by omega
    subst hi
    refine V_iload dX12_count_7 rfl ?_
    refine V_aload dX12_count_9 rfl ?_
    refine V_getIs fk_X12_126 dX12_count_10 hM.1 hN ?_
    refine V_icmp_ge dX12_count_13 (fun hc13 => ?_) (fun hc13 => ?_)
    · exact V.sub (lsS (lsS (lsS (lsS (lsN ls0))))) q
    · exact absurd (Int32.le_refl _) hc13
  | succ n ih =>
    intro i s u hin q
    refine V_iload dX12_count_7 rfl ?_
    refine V_aload dX12_count_9 rfl ?_
    refine V_getIs fk_X12_126 dX12_count_10 hM.1 hN ?_
    refine V_icmp_ge dX12_count_13 (fun hc13 => ?_) (fun hc13 => ?_)
    · exact absurd hc13 (nI_ge (by omega) (by omega))
    · refine V_iload dX12_count_16 rfl ?_
      refine V_aload dX12_count_17 rfl ?_
      refine V_getRs fk_X12_34 dX12_count_18 hM.1 hM.a1213.1 ?_
      refine V_iload dX12_count_21 rfl ?_
      refine V_iald dX12_count_23 hM.a1213.2 rfl (by omega) (by decide) ?_
      refine V_iadd dX12_count_24 ?_
      refine V_is2 dX12_count_25 (by decide) (noL_i _) ?_
      refine V_iload dX12_count_26 rfl ?_
      refine V_aload dX12_count_27 rfl ?_
      refine V_getRs fk_X12_61 dX12_count_28 hM.1 hM.a1222.1 ?_
      refine V_iload dX12_count_31 rfl ?_
      refine V_iald dX12_count_33 hM.a1222.2 rfl (by omega) (by decide) ?_
      refine V_iadd dX12_count_34 ?_
      refine V_is3 dX12_count_35 (by decide) (noL_i _) ?_
      refine V_ii4 dX12_count_36 (by decide) (noL_i _) ?_
      refine V_goto dX12_count_39 ?_
      exact V.sub (lsS (lsS (lsS (lsS (lsE (by rw [nI_1]) ls0))))) (ih (i + 1) _ _ (by omega) q)
theorem sem_X12_count {l : Launch} {D : va_G} {A : Nat → Prop} {z : Nat} {t : TT} {I : MI} {R : MR} {J : MI} {B : MR} {m N : Nat} {v : Int32} {Φ : PP} (hM : MSt m t R) (hN : I 1201 m = nI N) (hN2 : N ≤ 300) (q0 : (∀ i, i < 8 → v ≠ nI i) → Φ (some (.int (-1))) z t I R J B) (q : ∀ i, i < 8 → v = nI i → Φ (some (.int (cnM m I (itr (smM J (m + 9)) 0 N 0) (itr (smM J (m + 18)) 0 N 0) i))) z t I R J B) : Sem l D A 0 0 0 mX12_count [va_rf (some m), .int v] z t I R J B Φ := by
  refine Sem.run [some (va_rf (some m)), some (.int v), none, none, none] (by decide) rfl (ent_r (ent_i (ent_none (ent_none (ent_none ent_nil))))) ?_
  refine V_const dX12_count_0 ?_
  refine V_is2 dX12_count_1 (by decide) (noL_i _) ?_
  refine V_const dX12_count_2 ?_
  refine V_is3 dX12_count_3 (by decide) (noL_i _) ?_
  refine V_const dX12_count_4 ?_
  refine V_is4 dX12_count_5 (by decide) (noL_i _) ?_
  refine V.sub (lsS (lsS (lsS (lsS (lsS ls0))))) (lp_X12_count hM hN hN2 N 0 0 0 (by omega) ?_)
  refine V_iload dX12_count_42 rfl ?_
  refine V_tsw (N := 8) (dt := 122) (fun i => match i with | 0 => 88 | 1 => 93 | 2 => 98 | 3 => 103 | 4 => 105 | 5 => 107 | 6 => 112 | _ => 117) dX12_count_43 (by decide) (by decide) (by decide) (by decide +kernel) (fun i9 hi9 hx9 => ?_) (fun ho9 => ?_)
  · rcases (show i9 = 0 ∨ i9 = 1 ∨ i9 = 2 ∨ i9 = 3 ∨ i9 = 4 ∨ i9 = 5 ∨ i9 = 6 ∨ i9 = 7 by omega) with rfl | rfl | rfl | rfl | rfl | rfl | rfl | rfl
    · refine V_aload dX12_count_88 rfl ?_
      refine V_getI fk_X12_131 dX12_count_89 hM.1 ?_
      exact V_iret dX12_count_92 rfl (by decide) (by decide) (q 0 hi9 hx9)
    · refine V_aload dX12_count_93 rfl ?_
      refine V_getI fk_X12_126 dX12_count_94 hM.1 ?_
      exact V_iret dX12_count_97 rfl (by decide) (by decide) (q 1 hi9 hx9)
    · refine V_aload dX12_count_98 rfl ?_
      refine V_getI fk_X12_138 dX12_count_99 hM.1 ?_
      exact V_iret dX12_count_102 rfl (by decide) (by decide) (q 2 hi9 hx9)
    · refine V_iload dX12_count_103 rfl ?_
      exact V_iret dX12_count_104 rfl (by decide) (by decide) (q 3 hi9 hx9)
    · refine V_iload dX12_count_105 rfl ?_
      exact V_iret dX12_count_106 rfl (by decide) (by decide) (q 4 hi9 hx9)
    · refine V_aload dX12_count_107 rfl ?_
      refine V_getI fk_X12_165 dX12_count_108 hM.1 ?_
      exact V_iret dX12_count_111 rfl (by decide) (by decide) (q 5 hi9 hx9)
    · refine V_aload dX12_count_112 rfl ?_
      refine V_getI fk_X12_206 dX12_count_113 hM.1 ?_
      exact V_iret dX12_count_116 rfl (by decide) (by decide) (q 6 hi9 hx9)
    · refine V_aload dX12_count_117 rfl ?_
      refine V_getI fk_X12_176 dX12_count_118 hM.1 ?_
      exact V_iret dX12_count_121 rfl (by decide) (by decide) (q 7 hi9 hx9)
  · refine V_const dX12_count_122 ?_
    exact V_iret dX12_count_123 rfl (by decide) (by decide) (q0 ho9)
theorem sem_X12_end {l : Launch} {D : va_G} {A : Nat → Prop} {z : Nat} {t : TT} {I : MI} {R : MR} {J : MI} {B : MR} {m : Nat} {v : Int32} {Φ : PP} (hM : MSt m t R) (q0 : ¬ (0 ≤ v ∧ v ≤ I 1231 m) → Φ (some (.int 0)) z t I R J B) (q : 0 ≤ v ∧ v ≤ I 1231 m → Φ (some (.int 1)) z t (up2 I 1231 m v) R J B) : Sem l D A 0 0 0 mX12_end [va_rf (some m), .int v] z t I R J B Φ := by
  refine Sem.run [some (va_rf (some m)), some (.int v)] (by decide) rfl (ent_r (ent_i ent_nil)) ?_
  refine V_iload dX12_end_0 rfl ?_
  refine V_if_lt dX12_end_1 (fun hc1 => ?_) (fun hc1 => ?_)
  · refine V_const dX12_end_12 ?_
    exact V_zret dX12_end_13 rfl (by first | exact Or.inl rfl | exact Or.inr rfl) (by decide) (by decide) (q0 (fun h => by have h1 := h.1; rw [i_le] at h1; rw [i_lt] at hc1; omega))
  · refine V_iload dX12_end_4 rfl ?_
    refine V_aload dX12_end_5 rfl ?_
    refine V_getI fk_X12_176 dX12_end_6 hM.1 ?_
    refine V_icmp_le dX12_end_9 (fun hc9 => ?_) (fun hc9 => ?_)
    · refine V_aload dX12_end_14 rfl ?_
      refine V_iload dX12_end_15 rfl ?_
      refine V_putI fk_X12_176 (Or.inl rfl) rfl rfl dX12_end_16 hM.1 ?_
      refine V_const dX12_end_19 ?_
      exact V_zret dX12_end_20 rfl (by first | exact Or.inl rfl | exact Or.inr rfl) (by decide) (by decide) (q ⟨by rw [i_lt] at hc1; rw [i_le]; omega, hc9⟩)
    · refine V_const dX12_end_12 ?_
      exact V_zret dX12_end_13 rfl (by first | exact Or.inl rfl | exact Or.inr rfl) (by decide) (by decide) (q0 (fun h => hc9 h.2))
set_option maxHeartbeats 4000000 in
theorem sem_X12_survey {l : Launch} {D : va_G} {A : Nat → Prop} {z : Nat} {t : TT} {I : MI} {R : MR} {J : MI} {B : MR} {m w n : Nat} {p k v d : Int32} {Φ : PP} (hM : MSt m t R) (hw : I 1200 m = nI w) (hw2 : w ≤ 200) (hns : I 1204 m = nI n) (hns2 : n ≤ 200) (q0 : ¬ ((0 ≤ p ∧ p ≤ 7 ∧ 0 ≤ k ∧ k ≤ 3) ∧ (0 ≤ v ∧ v ≤ nI w) ∧ (0 ≤ d ∧ d ≤ 100000) ∧ n < 200) → Φ (some (.int (-1000000))) z t I R J B) (q : ∀ i j u, i < 8 → j < 4 → p = nI i → k = nI j → u ≤ w → v = nI u → 0 ≤ d ∧ d ≤ 100000 → n < 200 → Φ (some (.int (d - J (m + 22) (32 * u + 4 * i + j)))) z t (up2 I 1204 m (nI (n + 1))) R (up2 (up2 (up2 J (m + 33) n (nI (4 * i + j))) (m + 34) n v) (m + 35) n (d - J (m + 22) (32 * u + 4 * i + j))) B) : Sem l D A 2 0 0 mX12_survey [va_rf (some m), .int p, .int k, .int v, .int d] z t I R J B Φ := by
  refine Sem.run [some (va_rf (some m)), some (.int p), some (.int k), some (.int v), some (.int d)] (by decide) rfl (ent_r (ent_i (ent_i (ent_i (ent_i ent_nil))))) ?_
  refine V_iload dX12_survey_0 rfl ?_
  refine V_invS (As := [_]) ms_X12_isPlace lk_X12_119 dX12_survey_1 rfl rfl rfl (Nat.le_of_ble_eq_true rfl) ⟨⟨by decide, by decide⟩, by decide, by decide⟩ (sem_X12_isPlace ?_)
  refine V_if_eq dX12_survey_4 (fun hc4 => ?_) (fun hc4 => ?_)
  · rw [bI_0] at hc4
    refine V_ldc kk_X12_209 dX12_survey_47 ?_
    exact V_iret dX12_survey_49 rfl (by decide) (by decide) (q0 (fun h => hc4 ⟨h.1.1, h.1.2.1⟩))
  · rw [bI_n0] at hc4
    obtain ⟨i, hi, hvi⟩ := i_rng (N := 8) rfl hc4
    refine V_iload dX12_survey_7 rfl ?_
    refine V_invS (As := [_]) ms_X12_isKind lk_X12_123 dX12_survey_8 rfl rfl rfl (Nat.le_of_ble_eq_true rfl) ⟨⟨by decide, by decide⟩, by decide, by decide⟩ (sem_X12_isKind ?_)
    refine V_if_eq dX12_survey_11 (fun hc11 => ?_) (fun hc11 => ?_)
    · rw [bI_0] at hc11
      refine V_ldc kk_X12_209 dX12_survey_47 ?_
      exact V_iret dX12_survey_49 rfl (by decide) (by decide) (q0 (fun h => hc11 ⟨h.1.2.2.1, h.1.2.2.2⟩))
    · rw [bI_n0] at hc11
      obtain ⟨j, hj, hvj⟩ := i_rng (N := 4) rfl hc11
      refine V_iload dX12_survey_14 rfl ?_
      refine V_const dX12_survey_15 ?_
      refine V_aload dX12_survey_16 rfl ?_
      refine V_getIs fk_X12_131 dX12_survey_17 hM.1 hw ?_
      refine V_invS (As := [_, _, _]) ms_X12_in lk_X12_115 dX12_survey_20 rfl rfl rfl (Nat.le_of_ble_eq_true rfl) ⟨⟨by decide, by decide⟩, by decide, by decide⟩ (sem_X12_in ?_)
      refine V_if_eq dX12_survey_23 (fun hc23 => ?_) (fun hc23 => ?_)
      · rw [bI_0] at hc23
        refine V_ldc kk_X12_209 dX12_survey_47 ?_
        exact V_iret dX12_survey_49 rfl (by decide) (by decide) (q0 (fun h => hc23 h.2.1))
      · rw [bI_n0] at hc23
        obtain ⟨u, hu, hvu⟩ := i_rng (N := w + 1) (by rw [nI_toInt (by omega)]; omega) hc23
        refine V_iload dX12_survey_26 rfl ?_
        refine V_const dX12_survey_28 ?_
        refine V_ldc kk_X12_130 dX12_survey_29 ?_
        refine V_invS (As := [_, _, _]) ms_X12_in lk_X12_115 dX12_survey_31 rfl rfl rfl (Nat.le_of_ble_eq_true rfl) ⟨⟨by decide, by decide⟩, by decide, by decide⟩ (sem_X12_in ?_)
        refine V_if_eq dX12_survey_34 (fun hc34 => ?_) (fun hc34 => ?_)
        · rw [bI_0] at hc34
          refine V_ldc kk_X12_209 dX12_survey_47 ?_
          exact V_iret dX12_survey_49 rfl (by decide) (by decide) (q0 (fun h => hc34 h.2.2.1))
        · rw [bI_n0] at hc34
          refine V_aload dX12_survey_37 rfl ?_
          refine V_getIs fk_X12_206 dX12_survey_38 hM.1 hns ?_
          refine V_const dX12_survey_41 ?_
          refine V_icmp_ne dX12_survey_44 (fun hc44 => ?_) (fun hc44 => ?_)
          · have hn3 : n < 200 := by
              rcases Nat.lt_or_ge n 200 with h | h
              · exact h
              · exact absurd (show nI n = nI 200 by rw [show n = 200 by omega]) hc44
            refine V_aload dX12_survey_50 rfl ?_
            refine V_getRs fk_X12_106 dX12_survey_51 hM.1 hM.a1240.1 ?_
            refine V_aload dX12_survey_54 rfl ?_
            refine V_getIs fk_X12_206 dX12_survey_55 hM.1 hns ?_
            refine V_const dX12_survey_58 ?_
            refine V_iload dX12_survey_59 rfl ?_
            refine V_imul dX12_survey_60 ?_
            refine V_iload dX12_survey_61 rfl ?_
            refine V_iadd dX12_survey_62 ?_
            rw [show (4 : Int32) * p + k = nI (4 * i + j) by rw [hvi, hvj, show (4 : Int32) = nI 4 from rfl, pk_mul, nI_add]]
            refine V_iast dX12_survey_63 hM.a1240.2 rfl hn3 (by decide) ?_
            refine V_aload dX12_survey_64 rfl ?_
            refine V_getRs fk_X12_109 dX12_survey_65 hM.1 hM.a1241.1 ?_
            refine V_aload dX12_survey_68 rfl ?_
            refine V_getIs fk_X12_206 dX12_survey_69 hM.1 hns ?_
            refine V_iload dX12_survey_72 rfl ?_
            refine V_iast dX12_survey_73 hM.a1241.2 rfl hn3 (by decide) ?_
            refine V_aload dX12_survey_74 rfl ?_
            refine V_getRs fk_X12_112 dX12_survey_75 hM.1 hM.a1242.1 ?_
            refine V_aload dX12_survey_78 rfl ?_
            refine V_getIs fk_X12_206 dX12_survey_79 hM.1 hns ?_
            refine V_iload dX12_survey_82 rfl ?_
            refine V_aload dX12_survey_84 rfl ?_
            refine V_getRs fk_X12_73 dX12_survey_85 hM.1 hM.a1226.1 ?_
            refine V_const dX12_survey_88 ?_
            refine V_iload dX12_survey_90 rfl ?_
            refine V_imul dX12_survey_91 ?_
            refine V_const dX12_survey_92 ?_
            refine V_iload dX12_survey_93 rfl ?_
            refine V_imul dX12_survey_94 ?_
            refine V_iadd dX12_survey_95 ?_
            refine V_iload dX12_survey_96 rfl ?_
            refine V_iadd dX12_survey_97 ?_
            refine V_ialds dX12_survey_98 hM.a1226.2 (i := 32 * u + 4 * i + j) (by rw [hvu, hvi, hvj, show (4 : Int32) = nI 4 from rfl, show (32 : Int32) = nI 32 from rfl, pk_mul, pk_mul, nI_add, nI_add]) (by omega) (by decide) ((up2n (by omega)).trans (up2n (by omega))) ?_
            refine V_isub dX12_survey_99 ?_
            refine V_iast dX12_survey_100 hM.a1242.2 rfl hn3 (by decide) ?_
            refine V_aload dX12_survey_101 rfl ?_
            refine V_dupr dX12_survey_102 ?_
            refine V_getIs fk_X12_206 dX12_survey_103 hM.1 hns ?_
            refine V_const dX12_survey_106 ?_
            refine V_iadd dX12_survey_107 ?_
            refine V_putI fk_X12_206 (Or.inl rfl) rfl rfl dX12_survey_108 hM.1 ?_
            refine V_aload dX12_survey_111 rfl ?_
            refine V_getRs fk_X12_112 dX12_survey_112 hM.1 hM.a1242.1 ?_
            refine V_aload dX12_survey_115 rfl ?_
            refine V_getIs fk_X12_206 dX12_survey_116 hM.1 up2s ?_
            refine V_const dX12_survey_119 ?_
            refine V_isub dX12_survey_120 ?_
            refine V_ialds dX12_survey_121 hM.a1242.2 (i := n) (by rw [nI_1]; exact nI_pred n) hn3 (by decide) up2s ?_
            exact V_iret dX12_survey_122 rfl (by decide) (by decide) (by have h9 := q i j u hi hj hvi hvj (by omega) hvu hc34 hn3; rw [← nI_1] at h9; exact h9)
          · refine V_ldc kk_X12_209 dX12_survey_47 ?_
            exact V_iret dX12_survey_49 rfl (by decide) (by decide) (q0 (fun h => by have e : n = 200 := (nI_eq (by omega) (by omega)).mp (show nI n = nI 200 from hc44); have := h.2.2.2; omega))
