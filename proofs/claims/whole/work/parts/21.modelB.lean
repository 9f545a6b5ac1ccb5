-- THE REFERENCE: lots
def addJ (J : MI) (m l : Nat) (mk k wk n p cm g mr : Int32) : MI := up2 (up2 (up2 (up2 (up2 (up2 (up2 (up2 (up2 (up2 J (m + 6) l mk) (m + 7) l k) (m + 8) l wk) (m + 9) l n) (m + 10) l p) (m + 11) l cm) (m + 12) l g) (m + 13) l mr) (m + 14) l n) (m + 16) l (-1)
theorem sem_X12_addLot {l : Launch} {D : va_G} {A : Nat → Prop} {z : Nat} {t : TT} {I : MI} {R : MR} {J : MI} {B : MR} {m l9 : Nat} {mk k wk n p cm g of : Int32} {Φ : PP} (hM : MSt m t R) (hl : I 1201 m = nI l9) (hl2 : l9 < 300) (q : Φ (some (.int (nI l9))) z t (up2 I 1201 m (nI (l9 + 1))) R (addJ J m l9 mk k wk n p cm g (if of = -1 then nI l9 else of)) B) : Sem l D A 0 0 0 mX12_addLot [va_rf (some m), .int mk, .int k, .int wk, .int n, .int p, .int cm, .int g, .int of] z t I R J B Φ := by
  refine Sem.run [some (va_rf (some m)), some (.int mk), some (.int k), some (.int wk), some (.int n), some (.int p), some (.int cm), some (.int g), some (.int of), none] (by decide) rfl (ent_r (ent_i (ent_i (ent_i (ent_i (ent_i (ent_i (ent_i (ent_i (ent_none ent_nil)))))))))) ?_
  refine V_aload dX12_addLot_0 rfl ?_
  refine V_getIs fk_X12_126 dX12_addLot_1 hM.1 hl ?_
  refine V_is9 dX12_addLot_4 (by decide) (noL_i _) ?_
  refine V_aload dX12_addLot_6 rfl ?_
  refine V_dupr dX12_addLot_7 ?_
  refine V_getIs fk_X12_126 dX12_addLot_8 hM.1 hl ?_
  refine V_const dX12_addLot_11 ?_
  refine V_iadd dX12_addLot_12 ?_
  refine V_putI fk_X12_126 (Or.inl rfl) rfl rfl dX12_addLot_13 hM.1 ?_
  refine V_aload dX12_addLot_16 rfl ?_
  refine V_getRs fk_X12_25 dX12_addLot_17 hM.1 hM.a1210.1 ?_
  refine V_iload dX12_addLot_20 rfl ?_
  refine V_iload dX12_addLot_22 rfl ?_
  refine V_iast dX12_addLot_23 hM.a1210.2 rfl (by omega) (by decide) ?_
  refine V_aload dX12_addLot_24 rfl ?_
  refine V_getRs fk_X12_28 dX12_addLot_25 hM.1 hM.a1211.1 ?_
  refine V_iload dX12_addLot_28 rfl ?_
  refine V_iload dX12_addLot_30 rfl ?_
  refine V_iast dX12_addLot_31 hM.a1211.2 rfl (by omega) (by decide) ?_
  refine V_aload dX12_addLot_32 rfl ?_
  refine V_getRs fk_X12_31 dX12_addLot_33 hM.1 hM.a1212.1 ?_
  refine V_iload dX12_addLot_36 rfl ?_
  refine V_iload dX12_addLot_38 rfl ?_
  refine V_iast dX12_addLot_39 hM.a1212.2 rfl (by omega) (by decide) ?_
  refine V_aload dX12_addLot_40 rfl ?_
  refine V_getRs fk_X12_34 dX12_addLot_41 hM.1 hM.a1213.1 ?_
  refine V_iload dX12_addLot_44 rfl ?_
  refine V_iload dX12_addLot_46 rfl ?_
  refine V_iast dX12_addLot_48 hM.a1213.2 rfl (by omega) (by decide) ?_
  refine V_aload dX12_addLot_49 rfl ?_
  refine V_getRs fk_X12_37 dX12_addLot_50 hM.1 hM.a1214.1 ?_
  refine V_iload dX12_addLot_53 rfl ?_
  refine V_iload dX12_addLot_55 rfl ?_
  refine V_iast dX12_addLot_57 hM.a1214.2 rfl (by omega) (by decide) ?_
  refine V_aload dX12_addLot_58 rfl ?_
  refine V_getRs fk_X12_40 dX12_addLot_59 hM.1 hM.a1215.1 ?_
  refine V_iload dX12_addLot_62 rfl ?_
  refine V_iload dX12_addLot_64 rfl ?_
  refine V_iast dX12_addLot_66 hM.a1215.2 rfl (by omega) (by decide) ?_
  refine V_aload dX12_addLot_67 rfl ?_
  refine V_getRs fk_X12_43 dX12_addLot_68 hM.1 hM.a1216.1 ?_
  refine V_iload dX12_addLot_71 rfl ?_
  refine V_iload dX12_addLot_73 rfl ?_
  refine V_iast dX12_addLot_75 hM.a1216.2 rfl (by omega) (by decide) ?_
  refine V_aload dX12_addLot_76 rfl ?_
  refine V_getRs fk_X12_46 dX12_addLot_77 hM.1 hM.a1217.1 ?_
  refine V_iload dX12_addLot_80 rfl ?_
  refine V_iload dX12_addLot_82 rfl ?_
  refine V_const dX12_addLot_84 ?_
  refine V_icmp_ne dX12_addLot_85 (fun hc85 => ?_) (fun hc85 => ?_)
  · refine V_iload dX12_addLot_93 rfl ?_
    refine V_iast dX12_addLot_95 hM.a1217.2 rfl (by omega) (by decide) ?_
    refine V_aload dX12_addLot_96 rfl ?_
    refine V_getRs fk_X12_49 dX12_addLot_97 hM.1 hM.a1218.1 ?_
    refine V_iload dX12_addLot_100 rfl ?_
    refine V_iload dX12_addLot_102 rfl ?_
    refine V_iast dX12_addLot_104 hM.a1218.2 rfl (by omega) (by decide) ?_
    refine V_aload dX12_addLot_105 rfl ?_
    refine V_getRs fk_X12_55 dX12_addLot_106 hM.1 hM.a1220.1 ?_
    refine V_iload dX12_addLot_109 rfl ?_
    refine V_const dX12_addLot_111 ?_
    refine V_iast dX12_addLot_112 hM.a1220.2 rfl (by omega) (by decide) ?_
    refine V_iload dX12_addLot_113 rfl ?_
    exact V_iret dX12_addLot_115 rfl (by decide) (by decide) (by rw [if_neg hc85, ← nI_1] at q; exact q)
  · refine V_iload dX12_addLot_88 rfl ?_
    refine V_goto dX12_addLot_90 ?_
    refine V_iast dX12_addLot_95 hM.a1217.2 rfl (by omega) (by decide) ?_
    refine V_aload dX12_addLot_96 rfl ?_
    refine V_getRs fk_X12_49 dX12_addLot_97 hM.1 hM.a1218.1 ?_
    refine V_iload dX12_addLot_100 rfl ?_
    refine V_iload dX12_addLot_102 rfl ?_
    refine V_iast dX12_addLot_104 hM.a1218.2 rfl (by omega) (by decide) ?_
    refine V_aload dX12_addLot_105 rfl ?_
    refine V_getRs fk_X12_55 dX12_addLot_106 hM.1 hM.a1220.1 ?_
    refine V_iload dX12_addLot_109 rfl ?_
    refine V_const dX12_addLot_111 ?_
    refine V_iast dX12_addLot_112 hM.a1220.2 rfl (by omega) (by decide) ?_
    refine V_iload dX12_addLot_113 rfl ?_
    exact V_iret dX12_addLot_115 rfl (by decide) (by decide) (by rw [if_pos hc85, ← nI_1] at q; exact q)
theorem sem_X12_buy {l : Launch} {D : va_G} {A : Nat → Prop} {z : Nat} {t : TT} {I : MI} {R : MR} {J : MI} {B : MR} {m n : Nat} {p mk k c g pr : Int32} {Φ : PP} (hM : MSt m t R) (hn : I 1201 m = nI n) (hn2 : n ≤ 300) (q0 : ¬ buyOk p mk k c g pr n → Φ (some (.int (-1))) z t I R J B) (q : buyOk p mk k c g pr n → Φ (some (.int (nI n))) z t (up2 (up2 I 1201 m (nI (n + 1))) 1202 m (I 1202 m + c)) R (up2 (addJ J m n mk k (I 1200 m) c p (-1) g (nI n)) (m + 15) n pr) B) : Sem l D A 2 0 0 mX12_buy [va_rf (some m), .int p, .int mk, .int k, .int c, .int g, .int pr] z t I R J B Φ := by
  refine Sem.run [some (va_rf (some m)), some (.int p), some (.int mk), some (.int k), some (.int c), some (.int g), some (.int pr), none] (by decide) rfl (ent_r (ent_i (ent_i (ent_i (ent_i (ent_i (ent_i (ent_none ent_nil)))))))) ?_
  refine V_iload dX12_buy_0 rfl ?_
  refine V_invS (As := [_]) ms_X12_isPlace lk_X12_119 dX12_buy_1 rfl rfl rfl (Nat.le_of_ble_eq_true rfl) ⟨⟨by decide, by decide⟩, by decide, by decide⟩ (sem_X12_isPlace ?_)
  refine V_if_eq dX12_buy_4 (fun hc4 => ?_) (fun hc4 => ?_)
  · rw [bI_0] at hc4
    refine V_const dX12_buy_68 ?_
    exact V_iret dX12_buy_69 rfl (by decide) (by decide) (q0 (fun h => hc4 h.1))
  · rw [bI_n0] at hc4
    refine V_iload dX12_buy_7 rfl ?_
    refine V_const dX12_buy_8 ?_
    refine V_const dX12_buy_9 ?_
    refine V_invS (As := [_, _, _]) ms_X12_in lk_X12_115 dX12_buy_11 rfl rfl rfl (Nat.le_of_ble_eq_true rfl) ⟨⟨by decide, by decide⟩, by decide, by decide⟩ (sem_X12_in ?_)
    refine V_if_eq dX12_buy_14 (fun hc14 => ?_) (fun hc14 => ?_)
    · rw [bI_0] at hc14
      refine V_const dX12_buy_68 ?_
      exact V_iret dX12_buy_69 rfl (by decide) (by decide) (q0 (fun h => hc14 h.2.1))
    · rw [bI_n0] at hc14
      refine V_iload dX12_buy_17 rfl ?_
      refine V_invS (As := [_]) ms_X12_isKind lk_X12_123 dX12_buy_18 rfl rfl rfl (Nat.le_of_ble_eq_true rfl) ⟨⟨by decide, by decide⟩, by decide, by decide⟩ (sem_X12_isKind ?_)
      refine V_if_eq dX12_buy_21 (fun hc21 => ?_) (fun hc21 => ?_)
      · rw [bI_0] at hc21
        refine V_const dX12_buy_68 ?_
        exact V_iret dX12_buy_69 rfl (by decide) (by decide) (q0 (fun h => hc21 h.2.2.1))
      · rw [bI_n0] at hc21
        refine V_iload dX12_buy_24 rfl ?_
        refine V_const dX12_buy_26 ?_
        refine V_const dX12_buy_27 ?_
        refine V_invS (As := [_, _, _]) ms_X12_in lk_X12_115 dX12_buy_30 rfl rfl rfl (Nat.le_of_ble_eq_true rfl) ⟨⟨by decide, by decide⟩, by decide, by decide⟩ (sem_X12_in ?_)
        refine V_if_eq dX12_buy_33 (fun hc33 => ?_) (fun hc33 => ?_)
        · rw [bI_0] at hc33
          refine V_const dX12_buy_68 ?_
          exact V_iret dX12_buy_69 rfl (by decide) (by decide) (q0 (fun h => hc33 h.2.2.2.1))
        · rw [bI_n0] at hc33
          refine V_iload dX12_buy_36 rfl ?_
          refine V_const dX12_buy_38 ?_
          refine V_const dX12_buy_39 ?_
          refine V_invS (As := [_, _, _]) ms_X12_in lk_X12_115 dX12_buy_41 rfl rfl rfl (Nat.le_of_ble_eq_true rfl) ⟨⟨by decide, by decide⟩, by decide, by decide⟩ (sem_X12_in ?_)
          refine V_if_eq dX12_buy_44 (fun hc44 => ?_) (fun hc44 => ?_)
          · rw [bI_0] at hc44
            refine V_const dX12_buy_68 ?_
            exact V_iret dX12_buy_69 rfl (by decide) (by decide) (q0 (fun h => hc44 h.2.2.2.2.1))
          · rw [bI_n0] at hc44
            refine V_iload dX12_buy_47 rfl ?_
            refine V_const dX12_buy_49 ?_
            refine V_ldc kk_X12_130 dX12_buy_50 ?_
            refine V_invS (As := [_, _, _]) ms_X12_in lk_X12_115 dX12_buy_52 rfl rfl rfl (Nat.le_of_ble_eq_true rfl) ⟨⟨by decide, by decide⟩, by decide, by decide⟩ (sem_X12_in ?_)
            refine V_if_eq dX12_buy_55 (fun hc55 => ?_) (fun hc55 => ?_)
            · rw [bI_0] at hc55
              refine V_const dX12_buy_68 ?_
              exact V_iret dX12_buy_69 rfl (by decide) (by decide) (q0 (fun h => hc55 h.2.2.2.2.2.1))
            · rw [bI_n0] at hc55
              refine V_aload dX12_buy_58 rfl ?_
              refine V_getIs fk_X12_126 dX12_buy_59 hM.1 hn ?_
              refine V_const dX12_buy_62 ?_
              refine V_icmp_ne dX12_buy_65 (fun hc65 => ?_) (fun hc65 => ?_)
              · have hn3 : n < 300 := by
                  rcases Nat.lt_or_ge n 300 with h | h
                  · exact h
                  · exact absurd (show nI n = nI 300 by rw [show n = 300 by omega]) hc65
                refine V_aload dX12_buy_70 rfl ?_
                refine V_iload dX12_buy_71 rfl ?_
                refine V_iload dX12_buy_72 rfl ?_
                refine V_aload dX12_buy_73 rfl ?_
                refine V_getI fk_X12_131 dX12_buy_74 hM.1 ?_
                refine V_iload dX12_buy_77 rfl ?_
                refine V_iload dX12_buy_79 rfl ?_
                refine V_const dX12_buy_80 ?_
                refine V_iload dX12_buy_81 rfl ?_
                refine V_const dX12_buy_83 ?_
                refine V_invV (As := [_, _, _, _, _, _, _, _]) mv_X12_addLot lk_X12_134 dX12_buy_84 (c := 12) (by decide) rfl rfl hM.1 rfl rfl (Nat.le_of_ble_eq_true rfl) ⟨⟨by decide, by decide⟩, by decide, by decide⟩ (sem_X12_addLot hM hn hn3 ?_)
                rw [if_pos rfl]
                refine V_is7 dX12_buy_87 (by decide) (noL_i _) ?_
                refine V_aload dX12_buy_89 rfl ?_
                refine V_getRs fk_X12_52 dX12_buy_90 hM.1 hM.a1219.1 ?_
                refine V_iload dX12_buy_93 rfl ?_
                refine V_iload dX12_buy_95 rfl ?_
                refine V_iast dX12_buy_97 hM.a1219.2 rfl (by omega) (by decide) ?_
                refine V_aload dX12_buy_98 rfl ?_
                refine V_dupr dX12_buy_99 ?_
                refine V_getIs fk_X12_138 dX12_buy_100 hM.1 (up2n (by decide)) ?_
                refine V_iload dX12_buy_103 rfl ?_
                refine V_iadd dX12_buy_105 ?_
                refine V_putI fk_X12_138 (Or.inl rfl) rfl rfl dX12_buy_106 hM.1 ?_
                refine V_iload dX12_buy_109 rfl ?_
                exact V_iret dX12_buy_111 rfl (by decide) (by decide) (q ⟨hc4, hc14, hc21, hc33, hc44, hc55, hn3⟩)
              · refine V_const dX12_buy_68 ?_
                exact V_iret dX12_buy_69 rfl (by decide) (by decide) (q0 (fun h => by have e : n = 300 := (nI_eq (by omega) (by omega)).mp (show nI n = nI 300 from hc65); have := h.2.2.2.2.2.2; omega))
def sendM (J : MI) (m l n : Nat) (to c : Int32) : Prop := J (m + 11) l = -1 ∧ (1 ≤ c ∧ c ≤ J (m + 9) l) ∧ n < 300 ∧ (0 ≤ to ∧ to ≤ 7) ∧ to ≠ J (m + 10) l
set_option maxHeartbeats 4000000 in
theorem sem_X12_send {l : Launch} {D : va_G} {A : Nat → Prop} {z : Nat} {t : TT} {I : MI} {R : MR} {J : MI} {B : MR} {m n : Nat} {lt to c : Int32} {Φ : PP} (hM : MSt m t R) (hn : I 1201 m = nI n) (hn2 : n ≤ 300) (hpl : ∀ l, l < n → ∃ p, p < 8 ∧ J (m + 10) l = nI p) (hmr : ∀ l, l < n → J (m + 13) l ≠ -1) (q0 : (∀ l, l < n → lt = nI l → ¬ sendM J m l n to c) → Φ (some (.int (-1))) z t I R J B) (q : ∀ l i p, l < n → i < 8 → p < 8 → lt = nI l → to = nI i → J (m + 10) l = nI p → sendM J m l n to c → Φ (some (.int (nI n))) z t (up2 I 1201 m (nI (n + 1))) R (addJ (up2 J (m + 9) l (J (m + 9) l - c)) m n (J (m + 6) l) (J (m + 7) l) (J (m + 8) l) c to (I 1200 m + J (m + 4) (8 * p + i)) (J (m + 12) l) (J (m + 13) l)) B) : Sem l D A 2 0 0 mX12_send [va_rf (some m), .int lt, .int to, .int c] z t I R J B Φ := by
  refine Sem.run [some (va_rf (some m)), some (.int lt), some (.int to), some (.int c)] (by decide) rfl (ent_r (ent_i (ent_i (ent_i ent_nil)))) ?_
  refine V_aload dX12_send_0 rfl ?_
  refine V_iload dX12_send_1 rfl ?_
  refine V_invV (As := [_]) mv_X12_isLot lk_X12_141 dX12_send_2 (c := 12) (by decide) rfl rfl hM.1 rfl rfl (Nat.le_of_ble_eq_true rfl) ⟨⟨by decide, by decide⟩, by decide, by decide⟩ (sem_X12_isLot hM ?_)
  refine V_if_eq dX12_send_5 (fun hc5 => ?_) (fun hc5 => ?_)
  · rw [bI_0, hn] at hc5
    refine V_const dX12_send_60 ?_
    exact V_iret dX12_send_61 rfl (by decide) (by decide) (q0 (fun l hl e => absurd e (i_out (i_pred (by omega)) (by omega) hc5 l hl)))
  · rw [bI_n0, hn] at hc5
    obtain ⟨l, hl, hvl⟩ := i_rng (i_pred (by omega)) hc5
    obtain ⟨p, hp, hvp⟩ := hpl l hl
    refine V_aload dX12_send_8 rfl ?_
    refine V_getRs fk_X12_40 dX12_send_9 hM.1 hM.a1215.1 ?_
    refine V_iload dX12_send_12 rfl ?_
    refine V_iald dX12_send_13 hM.a1215.2 hvl (by omega) (by decide) ?_
    refine V_const dX12_send_14 ?_
    refine V_icmp_ne dX12_send_15 (fun hc15 => ?_) (fun hc15 => ?_)
    · refine V_const dX12_send_60 ?_
      exact V_iret dX12_send_61 rfl (by decide) (by decide) (q0 (fun i2 hi2 e h => hc15 (by have e2 : i2 = l := (nI_eq (by omega) (by omega)).mp (e.symm.trans hvl); subst e2; exact h.1)))
    · refine V_iload dX12_send_18 rfl ?_
      refine V_const dX12_send_19 ?_
      refine V_icmp_lt dX12_send_20 (fun hc20 => ?_) (fun hc20 => ?_)
      · refine V_const dX12_send_60 ?_
        exact V_iret dX12_send_61 rfl (by decide) (by decide) (q0 (fun i2 hi2 e h => by have h1 := h.2.1.1; rw [i_le] at h1; rw [i_lt] at hc20; omega))
      · refine V_iload dX12_send_23 rfl ?_
        refine V_aload dX12_send_24 rfl ?_
        refine V_getRs fk_X12_34 dX12_send_25 hM.1 hM.a1213.1 ?_
        refine V_iload dX12_send_28 rfl ?_
        refine V_iald dX12_send_29 hM.a1213.2 hvl (by omega) (by decide) ?_
        refine V_icmp_gt dX12_send_30 (fun hc30 => ?_) (fun hc30 => ?_)
        · refine V_const dX12_send_60 ?_
          exact V_iret dX12_send_61 rfl (by decide) (by decide) (q0 (fun i2 hi2 e h => by have e2 : i2 = l := (nI_eq (by omega) (by omega)).mp (e.symm.trans hvl); subst e2; have h1 := h.2.1.2; rw [i_le] at h1; rw [i_lt] at hc30; omega))
        · refine V_iload dX12_send_33 rfl ?_
          refine V_invS (As := [_]) ms_X12_isPlace lk_X12_119 dX12_send_34 rfl rfl rfl (Nat.le_of_ble_eq_true rfl) ⟨⟨by decide, by decide⟩, by decide, by decide⟩ (sem_X12_isPlace ?_)
          refine V_if_eq dX12_send_37 (fun hc37 => ?_) (fun hc37 => ?_)
          · rw [bI_0] at hc37
            refine V_const dX12_send_60 ?_
            exact V_iret dX12_send_61 rfl (by decide) (by decide) (q0 (fun i2 hi2 e h => hc37 h.2.2.2.1))
          · rw [bI_n0] at hc37
            obtain ⟨i, hi, hvi⟩ := i_rng (N := 8) rfl hc37
            refine V_iload dX12_send_40 rfl ?_
            refine V_aload dX12_send_41 rfl ?_
            refine V_getRs fk_X12_37 dX12_send_42 hM.1 hM.a1214.1 ?_
            refine V_iload dX12_send_45 rfl ?_
            refine V_iald dX12_send_46 hM.a1214.2 hvl (by omega) (by decide) ?_
            refine V_icmp_eq dX12_send_47 (fun hc47 => ?_) (fun hc47 => ?_)
            · refine V_const dX12_send_60 ?_
              exact V_iret dX12_send_61 rfl (by decide) (by decide) (q0 (fun i2 hi2 e h => h.2.2.2.2 (by have e2 : i2 = l := (nI_eq (by omega) (by omega)).mp (e.symm.trans hvl); subst e2; exact (by exact hc47))))
            · refine V_aload dX12_send_50 rfl ?_
              refine V_getIs fk_X12_126 dX12_send_51 hM.1 hn ?_
              refine V_const dX12_send_54 ?_
              refine V_icmp_ne dX12_send_57 (fun hc57 => ?_) (fun hc57 => ?_)
              · have hn3 : n < 300 := by
                  rcases Nat.lt_or_ge n 300 with h | h
                  · exact h
                  · exact absurd (show nI n = nI 300 by rw [show n = 300 by omega]) hc57
                refine V_aload dX12_send_62 rfl ?_
                refine V_getRs fk_X12_34 dX12_send_63 hM.1 hM.a1213.1 ?_
                refine V_iload dX12_send_66 rfl ?_
                refine V_dup2ir dX12_send_67 ?_
                refine V_iald dX12_send_68 hM.a1213.2 hvl (by omega) (by decide) ?_
                refine V_iload dX12_send_69 rfl ?_
                refine V_isub dX12_send_70 ?_
                refine V_iast dX12_send_71 hM.a1213.2 hvl (by omega) (by decide) ?_
                refine V_aload dX12_send_72 rfl ?_
                refine V_aload dX12_send_73 rfl ?_
                refine V_getRs fk_X12_25 dX12_send_74 hM.1 hM.a1210.1 ?_
                refine V_iload dX12_send_77 rfl ?_
                refine V_iald dX12_send_78 hM.a1210.2 hvl (by omega) (by decide) ?_
                refine V_aload dX12_send_79 rfl ?_
                refine V_getRs fk_X12_28 dX12_send_80 hM.1 hM.a1211.1 ?_
                refine V_iload dX12_send_83 rfl ?_
                refine V_iald dX12_send_84 hM.a1211.2 hvl (by omega) (by decide) ?_
                refine V_aload dX12_send_85 rfl ?_
                refine V_getRs fk_X12_31 dX12_send_86 hM.1 hM.a1212.1 ?_
                refine V_iload dX12_send_89 rfl ?_
                refine V_iald dX12_send_90 hM.a1212.2 hvl (by omega) (by decide) ?_
                refine V_iload dX12_send_91 rfl ?_
                refine V_iload dX12_send_92 rfl ?_
                refine V_aload dX12_send_93 rfl ?_
                refine V_getI fk_X12_131 dX12_send_94 hM.1 ?_
                refine V_aload dX12_send_97 rfl ?_
                refine V_getRs fk_X12_19 dX12_send_98 hM.1 hM.a1208.1 ?_
                refine V_const dX12_send_101 ?_
                refine V_aload dX12_send_103 rfl ?_
                refine V_getRs fk_X12_37 dX12_send_104 hM.1 hM.a1214.1 ?_
                refine V_iload dX12_send_107 rfl ?_
                refine V_iald dX12_send_108 hM.a1214.2 hvl (by omega) (by decide) ?_
                refine V_imul dX12_send_109 ?_
                refine V_iload dX12_send_110 rfl ?_
                refine V_iadd dX12_send_111 ?_
                refine V_iald dX12_send_112 hM.a1208.2 (i := 8 * p + i) (by rw [up2_ne _ _ _ (by omega), hvp, hvi, show (8 : Int32) = nI 8 from rfl, pk_mul, nI_add]) (by omega) (by decide) ?_
                refine V_iadd dX12_send_113 ?_
                refine V_aload dX12_send_114 rfl ?_
                refine V_getRs fk_X12_43 dX12_send_115 hM.1 hM.a1216.1 ?_
                refine V_iload dX12_send_118 rfl ?_
                refine V_iald dX12_send_119 hM.a1216.2 hvl (by omega) (by decide) ?_
                refine V_aload dX12_send_120 rfl ?_
                refine V_getRs fk_X12_46 dX12_send_121 hM.1 hM.a1217.1 ?_
                refine V_iload dX12_send_124 rfl ?_
                refine V_iald dX12_send_125 hM.a1217.2 hvl (by omega) (by decide) ?_
                refine V_invV (As := [_, _, _, _, _, _, _, _]) mv_X12_addLot lk_X12_134 dX12_send_126 (c := 12) (by decide) rfl rfl hM.1 rfl rfl (Nat.le_of_ble_eq_true rfl) ⟨⟨by decide, by decide⟩, by decide, by decide⟩ (sem_X12_addLot hM hn hn3 ?_)
                rw [up2_ne _ _ _ (show m + 6 ≠ m + 9 by omega), up2_ne _ _ _ (show m + 7 ≠ m + 9 by omega), up2_ne _ _ _ (show m + 8 ≠ m + 9 by omega), up2_ne _ _ _ (show m + 4 ≠ m + 9 by omega), up2_ne _ _ _ (show m + 12 ≠ m + 9 by omega), up2_ne _ _ _ (show m + 13 ≠ m + 9 by omega), if_neg (hmr l hl)]
                exact V_iret dX12_send_129 rfl (by decide) (by decide) (q l i p hl hi hp hvl hvi hvp ⟨hc15, ⟨by rw [i_lt] at hc20; rw [i_le]; omega, by rw [i_lt] at hc30; rw [i_le]; omega⟩, hn3, hc37, hc47⟩)
              · refine V_const dX12_send_60 ?_
                exact V_iret dX12_send_61 rfl (by decide) (by decide) (q0 (fun i2 hi2 e h => by have e : n = 300 := (nI_eq (by omega) (by omega)).mp (show nI n = nI 300 from hc57); have := h.2.2.1; omega))
