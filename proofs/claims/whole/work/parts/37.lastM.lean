-- LASTS, in the reference
def lcM (m l : Nat) (w : Int32) (J : MI) : MI := if J (m + 24) l ≠ -1 ∧ J (m + 24) l ≤ w then up2 J (m + 24) l (-1) else J
def llM (m l k : Nat) (w : Int32) (J : MI) : Int32 := J (m + 23) l * partM (J (m + 3)) (10 * k + ageN ((w - J (m + 8) l) / 4)) (bI (¬ J (m + 24) l = -1)) / 1000
def lsM (m l k : Nat) (w : Int32) (J : MI) : MI := up2 J (m + 23) l (J (m + 23) l - llM m l k w J)
def lw1 (m p : Nat) (kf : Nat → Nat) (w : Int32) (l : Nat) (J : MI) : MI := if J (m + 10) l = nI p then lsM m l (kf l) w (lcM m l w J) else J
noncomputable def leS (m p k N : Nat) : Nat → Int32 → MI → Bool × MI
  | 0, _, J => (true, J)
  | f + 1, nd, J => if nd ≤ 0 then (true, J) else match oldR J m (nI p) (nI k) (J (m + 23)) (J (m + 24)) N with
    | none => (false, J)
    | some l => leS m p k N f (nd - jmin nd (J (m + 2) k)) (up2 (up2 J (m + 23) l (J (m + 23) l - 1)) (m + 25) k (J (m + 2) k - jmin nd (J (m + 2) k)))
noncomputable def leK (m p N k : Nat) (J : MI) : Bool × MI := leS m p k N 7000 (7 * J (m + 1) p - jmin (7 * J (m + 1) p) (J (m + 25) k)) (up2 J (m + 25) k (J (m + 25) k - jmin (7 * J (m + 1) p) (J (m + 25) k)))
noncomputable def leA (m p N : Nat) : Nat → Nat → MI → Bool × MI
  | 0, _, J => (true, J)
  | n + 1, k, J => if (leK m p N k J).1 = true then leA m p N n (k + 1) (leK m p N k J).2 else (false, (leK m p N k J).2)
noncomputable def lwA (m p N : Nat) (kf : Nat → Nat) (w : Int32) (J : MI) : Bool × MI := leA m p N 4 0 (itr (lw1 m p kf w) 0 N J)
noncomputable def laN (m p w N : Nat) (kf : Nat → Nat) : Nat → Nat → MI → Nat × MI
  | 0, i, J => (i, J)
  | n + 1, i, J => if (lwA m p N kf (nI (w + i)) J).1 = true then laN m p w N kf n (i + 1) (lwA m p N kf (nI (w + i)) J).2 else (i, (lwA m p N kf (nI (w + i)) J).2)
theorem leA_t {m p N n k : Nat} {J : MI} (h : (leK m p N k J).1 = true) : leA m p N (n + 1) k J = leA m p N n (k + 1) (leK m p N k J).2 := if_pos h
theorem leA_f {m p N n k : Nat} {J : MI} (h : (leK m p N k J).1 = false) : leA m p N (n + 1) k J = (false, (leK m p N k J).2) := if_neg (fun q => by rw [h] at q; cases q)
theorem lw1_keep {m p b l : Nat} {kf : Nat → Nat} {w : Int32} {J : MI} (h1 : b ≠ m + 23) (h2 : b ≠ m + 24) : lw1 m p kf w l J b = J b := by
  unfold lw1
  split
  · unfold lsM lcM
    rw [up2_ne _ _ _ h1]
    split
    · rw [up2_ne _ _ _ h2]
    · rfl
  · rfl
theorem leS_keep {m p k N b : Nat} (h1 : b ≠ m + 23) (h2 : b ≠ m + 25) : ∀ (f : Nat) (nd : Int32) (J : MI), (leS m p k N f nd J).2 b = J b
  | 0, _, _ => rfl
  | f + 1, nd, J => by
    rw [leS]
    split
    · rfl
    · split
      · rfl
      · rw [leS_keep h1 h2 f, up2_ne _ _ _ h2, up2_ne _ _ _ h1]
theorem leK_keep {m p k N b : Nat} {J : MI} (h1 : b ≠ m + 23) (h2 : b ≠ m + 25) : (leK m p N k J).2 b = J b := by
  unfold leK
  rw [leS_keep h1 h2, up2_ne _ _ _ h2]
theorem leA_keep {m p N b : Nat} (h1 : b ≠ m + 23) (h2 : b ≠ m + 25) : ∀ (n k : Nat) (J : MI), (leA m p N n k J).2 b = J b
  | 0, _, _ => rfl
  | n + 1, k, J => by
    rw [leA]
    split
    · rw [leA_keep h1 h2 n, leK_keep h1 h2]
    · exact leK_keep h1 h2
theorem lwA_keep {m p N b : Nat} {kf : Nat → Nat} {w : Int32} {J : MI} (h1 : b ≠ m + 23) (h2 : b ≠ m + 24) (h3 : b ≠ m + 25) : (lwA m p N kf w J).2 b = J b := by
  unfold lwA
  rw [leA_keep h1 h3, itr_keep (fun l J => lw1_keep h1 h2)]
def LwOk (m p : Nat) (J : MI) : Prop := (∀ k, k < 4 → 1 ≤ J (m + 2) k) ∧ (0 ≤ J (m + 1) p ∧ J (m + 1) p ≤ 1000) ∧ ∀ k, k < 4 → 0 ≤ J (m + 25) k
theorem seven {v : Int32} (h : 0 ≤ v ∧ v ≤ 1000) : (7 * v).toInt = 7 * v.toInt ∧ 0 ≤ v.toInt ∧ v.toInt ≤ 1000 := by
  obtain ⟨h1, h2⟩ := h
  rw [i_le] at h1 h2
  have e0 : (0 : Int32).toInt = 0 := rfl
  have e1 : (1000 : Int32).toInt = 1000 := rfl
  have e7 : (7 : Int32).toInt = 7 := rfl
  refine ⟨?_, by omega, by omega⟩
  rw [Int32.toInt_mul, e7]
  apply Int.bmod_eq_of_le <;> omega
theorem jmin_i {x y : Int32} : (jmin x y).toInt = min x.toInt y.toInt := by
  unfold jmin
  split
  · rename_i h; rw [i_lt] at h; omega
  · rename_i h; rw [i_lt] at h; omega
theorem sub_jmin {x y : Int32} (hx : 0 ≤ x.toInt) (hy : 0 ≤ y.toInt) : (x - jmin x y).toInt = x.toInt - min x.toInt y.toInt ∧ (y - jmin x y).toInt = y.toInt - min x.toInt y.toInt := by
  have e := @jmin_i x y
  refine ⟨?_, ?_⟩
  · rw [sub_i (by omega) (by omega), e]
  · rw [sub_i (by omega) (by omega), e]
theorem LwOk.need {m p k : Nat} {J : MI} (h : LwOk m p J) (hk : k < 4) : (7 * J (m + 1) p - jmin (7 * J (m + 1) p) (J (m + 25) k)).toInt ≤ 7000 := by
  obtain ⟨s1, s2, s3⟩ := seven h.2.1
  have h2 := h.2.2 k hk
  rw [i_le] at h2
  have e0 : (0 : Int32).toInt = 0 := rfl
  rw [(sub_jmin (by omega) (by omega)).1]
  omega
theorem leS_open {m p k N : Nat} (hk : k < 4) : ∀ (f : Nat) (nd : Int32) (J : MI), 0 ≤ nd.toInt → (∀ k, k < 4 → 1 ≤ J (m + 2) k) → (∀ k, k < 4 → 0 ≤ J (m + 25) k) → ∀ k', k' < 4 → 0 ≤ (leS m p k N f nd J).2 (m + 25) k'
  | 0, _, _, _, _, h, k', hk' => h k' hk'
  | f + 1, nd, J, hnd, hr, h, k', hk' => by
    rw [leS]
    split
    · exact h k' hk'
    · rename_i hp
      split
      · exact h k' hk'
      · have h1 := hr k hk
        rw [i_le] at h1
        have e1 : (1 : Int32).toInt = 1 := rfl
        have e0 : (0 : Int32).toInt = 0 := rfl
        have s := @sub_jmin nd (J (m + 2) k) hnd (by omega)
        refine leS_open hk f _ _ (by rw [s.1]; omega) (fun k2 hk2 => by rw [up2n (by omega), up2n (by omega)]; exact hr k2 hk2) (fun k2 hk2 => ?_) k' hk'
        by_cases e : k2 = k
        · subst e
          rw [up2s, i_le, s.2]; omega
        · rw [up2o e, up2n (by omega)]
          exact h k2 hk2
theorem LwOk.one {m p N k : Nat} {J : MI} (h : LwOk m p J) (hk : k < 4) : LwOk m p (leK m p N k J).2 := by
  obtain ⟨s1, s2, s3⟩ := seven h.2.1
  have h2 := h.2.2 k hk
  rw [i_le] at h2
  have e0 : (0 : Int32).toInt = 0 := rfl
  have s := @sub_jmin (7 * J (m + 1) p) (J (m + 25) k) (by omega) (by omega)
  refine ⟨fun k' hk' => by rw [leK_keep (by omega) (by omega)]; exact h.1 k' hk', by rw [leK_keep (by omega) (by omega)]; exact h.2.1, fun k' hk' => ?_⟩
  refine leS_open hk _ _ _ (by rw [s.1]; omega) (fun k2 hk2 => by rw [up2n (by omega)]; exact h.1 k2 hk2) (fun k2 hk2 => ?_) k' hk'
  by_cases e : k2 = k
  · subst e; rw [up2s, i_le, s.2]; omega
  · rw [up2o e]; exact h.2.2 k2 hk2
theorem LwOk.all {m p N : Nat} : ∀ (n k : Nat) (J : MI), k + n = 4 → LwOk m p J → LwOk m p (leA m p N n k J).2
  | 0, _, _, _, h => h
  | n + 1, k, J, e, h => by
    rw [leA]
    split
    · exact LwOk.all n (k + 1) _ (by omega) (h.one (by omega))
    · exact h.one (by omega)
theorem LwOk.lw {m p N : Nat} {kf : Nat → Nat} {w : Int32} {J : MI} (h : LwOk m p J) : LwOk m p (itr (lw1 m p kf w) 0 N J) := by
  refine ⟨fun k hk => ?_, ?_, fun k hk => ?_⟩
  · rw [itr_keep (fun l J => lw1_keep (by omega) (by omega))]; exact h.1 k hk
  · rw [itr_keep (fun l J => lw1_keep (by omega) (by omega))]; exact h.2.1
  · rw [itr_keep (fun l J => lw1_keep (by omega) (by omega))]; exact h.2.2 k hk
theorem LwOk.lwA {m p N : Nat} {kf : Nat → Nat} {w : Int32} {J : MI} (h : LwOk m p J) : LwOk m p (lwA m p N kf w J).2 := LwOk.all 4 0 _ rfl h.lw
theorem tl_X12_lw {l : Launch} {D : va_G} {A : Nat → Prop} {z : Nat} {t : TT} {I : MI} {R : MR} {J : MI} {B : MR} {m i N k p : Nat} {w : Int32} {Φ : PP} (hM : MSt m t R) (hi : i < N) (hN2 : N ≤ 300) (hk : J (m + 7) i = nI k ∧ k < 4) (hd : 0 ≤ (w - J (m + 8) i) / 4) (kk : V l D A (rmm 2 0 0) mX12_lastsWeek (KS D A 0 0 Φ) 0 0 z t I R (lsM m i k w J) B 2 [some (va_rf (some m)), some (.int (nI p)), some (.int w), some (.int (nI (i + 1))), none, none, none, none] []) : V l D A (rmm 2 0 0) mX12_lastsWeek (KS D A 0 0 Φ) 0 0 z t I R J B 50 [some (va_rf (some m)), some (.int (nI p)), some (.int w), some (.int (nI i)), none, none, none, none] [] := by
  refine V_aload dX12_lastsWeek_50 rfl ?_
  refine V_getRs fk_X12_76 dX12_lastsWeek_51 hM.1 hM.a1227.1 ?_
  refine V_iload dX12_lastsWeek_54 rfl ?_
  refine V_dup2ir dX12_lastsWeek_55 ?_
  refine V_iald dX12_lastsWeek_56 hM.a1227.2 rfl (by omega) (by decide) ?_
  refine V_aload dX12_lastsWeek_57 rfl ?_
  refine V_getRs fk_X12_76 dX12_lastsWeek_58 hM.1 hM.a1227.1 ?_
  refine V_iload dX12_lastsWeek_61 rfl ?_
  refine V_iald dX12_lastsWeek_62 hM.a1227.2 rfl (by omega) (by decide) ?_
  refine V_aload dX12_lastsWeek_63 rfl ?_
  refine V_aload dX12_lastsWeek_64 rfl ?_
  refine V_getRs fk_X12_28 dX12_lastsWeek_65 hM.1 hM.a1211.1 ?_
  refine V_iload dX12_lastsWeek_68 rfl ?_
  refine V_ialds dX12_lastsWeek_69 hM.a1211.2 rfl (by omega) (by decide) hk.1 ?_
  refine V_iload dX12_lastsWeek_70 rfl ?_
  refine V_aload dX12_lastsWeek_71 rfl ?_
  refine V_getRs fk_X12_31 dX12_lastsWeek_72 hM.1 hM.a1212.1 ?_
  refine V_iload dX12_lastsWeek_75 rfl ?_
  refine V_iald dX12_lastsWeek_76 hM.a1212.2 rfl (by omega) (by decide) ?_
  refine V_aload dX12_lastsWeek_77 rfl ?_
  refine V_getRs fk_X12_79 dX12_lastsWeek_78 hM.1 hM.a1228.1 ?_
  refine V_iload dX12_lastsWeek_81 rfl ?_
  refine V_iald dX12_lastsWeek_82 hM.a1228.2 rfl (by omega) (by decide) ?_
  refine V_const dX12_lastsWeek_83 ?_
  refine V_icmp_eq dX12_lastsWeek_84 (fun hc84 => ?_) (fun hc84 => ?_)
  · refine V_const dX12_lastsWeek_91 ?_
    refine V_invV (As := [_, _, _, _]) mv_X12_part lk_X12_150 dX12_lastsWeek_92 (c := 12) (by decide) rfl rfl hM.1 rfl rfl (Nat.le_of_ble_eq_true rfl) ⟨⟨by decide, by decide⟩, by decide, by decide⟩ (sem_X12_part hM hk.2 hd ?_)
    refine V_imul dX12_lastsWeek_95 ?_
    refine V_const dX12_lastsWeek_96 ?_
    refine V_idiv dX12_lastsWeek_99 (by decide) ?_
    refine V_isub dX12_lastsWeek_100 ?_
    refine V_iast dX12_lastsWeek_101 hM.a1227.2 rfl (by omega) (by decide) ?_
    refine V_ii3 dX12_lastsWeek_102 (by decide) (noL_i _) ?_
    refine V_goto dX12_lastsWeek_105 ?_
    exact V.sub (lsS (lsS (lsS (lsE (by rw [nI_1]) (lsN (lsN (lsN (lsN ls0)))))))) (by unfold lsM llM at kk; rw [bI_f (fun h => h hc84)] at kk; exact kk)
  · refine V_const dX12_lastsWeek_87 ?_
    refine V_goto dX12_lastsWeek_88 ?_
    refine V_invV (As := [_, _, _, _]) mv_X12_part lk_X12_150 dX12_lastsWeek_92 (c := 12) (by decide) rfl rfl hM.1 rfl rfl (Nat.le_of_ble_eq_true rfl) ⟨⟨by decide, by decide⟩, by decide, by decide⟩ (sem_X12_part hM hk.2 hd ?_)
    refine V_imul dX12_lastsWeek_95 ?_
    refine V_const dX12_lastsWeek_96 ?_
    refine V_idiv dX12_lastsWeek_99 (by decide) ?_
    refine V_isub dX12_lastsWeek_100 ?_
    refine V_iast dX12_lastsWeek_101 hM.a1227.2 rfl (by omega) (by decide) ?_
    refine V_ii3 dX12_lastsWeek_102 (by decide) (noL_i _) ?_
    refine V_goto dX12_lastsWeek_105 ?_
    exact V.sub (lsS (lsS (lsS (lsE (by rw [nI_1]) (lsN (lsN (lsN (lsN ls0)))))))) (by unfold lsM llM at kk; rw [bI_t hc84] at kk; exact kk)
theorem lp_X12_lw1 {l : Launch} {D : va_G} {A : Nat → Prop} {z : Nat} {t : TT} {I : MI} {R : MR} {B : MR} {m N p : Nat} {w : Int32} {kf : Nat → Nat} {K7 K8 : Nat → Int32} {Φ : PP} (hM : MSt m t R) (hN : I 1201 m = nI N) (hN2 : N ≤ 300) (hk : ∀ l, l < N → K7 l = nI (kf l) ∧ kf l < 4) (hd : ∀ l, l < N → 0 ≤ (w - K8 l) / 4) : ∀ (n i : Nat) (J : MI), J (m + 7) = K7 → J (m + 8) = K8 → i + n = N → V l D A (rmm 2 0 0) mX12_lastsWeek (KS D A 0 0 Φ) 0 0 z t I R (itr (lw1 m p kf w) i n J) B 108 [some (va_rf (some m)), some (.int (nI p)), some (.int w), none, none, none, none, none] [] → V l D A (rmm 2 0 0) mX12_lastsWeek (KS D A 0 0 Φ) 0 0 z t I R J B 2 [some (va_rf (some m)), some (.int (nI p)), some (.int w), some (.int (nI i)), none, none, none, none] [] := by
  intro n
  induction n with
  | zero =>
    intro i J h7 h8 hin kk
    have hi : i = N := by omega
    subst hi
    refine V_iload dX12_lastsWeek_2 rfl ?_
    refine V_aload dX12_lastsWeek_3 rfl ?_
    refine V_getIs fk_X12_126 dX12_lastsWeek_4 hM.1 hN ?_
    refine V_icmp_ge dX12_lastsWeek_7 (fun hc7 => ?_) (fun hc7 => ?_)
    · exact V.sub (lsS (lsS (lsS (lsN (lsN (lsN (lsN (lsN ls0)))))))) kk
    · exact absurd (Int32.le_refl _) hc7
  | succ n ih =>
    intro i J h7 h8 hin kk
    have hi : i < N := by omega
    have c7 : lcM m i w J (m + 7) = K7 := by rw [← h7]; unfold lcM; split <;> first | rfl | exact up2_ne _ _ _ (by omega)
    have c8 : lcM m i w J (m + 8) = K8 := by rw [← h8]; unfold lcM; split <;> first | rfl | exact up2_ne _ _ _ (by omega)
    have go : J (m + 10) i = nI p → V l D A (rmm 2 0 0) mX12_lastsWeek (KS D A 0 0 Φ) 0 0 z t I R (lcM m i w J) B 50 [some (va_rf (some m)), some (.int (nI p)), some (.int w), some (.int (nI i)), none, none, none, none] [] := by
      intro hpl
      refine tl_X12_lw (k := kf i) hM hi hN2 (by rw [c7]; exact hk i hi) (by rw [c8]; exact hd i hi) ?_
      refine ih (i + 1) _ ?_ ?_ (by omega) (by rw [itr, show lw1 m p kf w i J = lsM m i (kf i) w (lcM m i w J) from if_pos hpl] at kk; exact kk)
      · unfold lsM; rw [up2_ne _ _ _ (by omega)]; exact c7
      · unfold lsM; rw [up2_ne _ _ _ (by omega)]; exact c8
    refine V_iload dX12_lastsWeek_2 rfl ?_
    refine V_aload dX12_lastsWeek_3 rfl ?_
    refine V_getIs fk_X12_126 dX12_lastsWeek_4 hM.1 hN ?_
    refine V_icmp_ge dX12_lastsWeek_7 (fun hc7 => ?_) (fun hc7 => ?_)
    · exact absurd hc7 (nI_ge (by omega) (by omega))
    · refine V_aload dX12_lastsWeek_10 rfl ?_
      refine V_getRs fk_X12_37 dX12_lastsWeek_11 hM.1 hM.a1214.1 ?_
      refine V_iload dX12_lastsWeek_14 rfl ?_
      refine V_iald dX12_lastsWeek_15 hM.a1214.2 rfl (by omega) (by decide) ?_
      refine V_iload dX12_lastsWeek_16 rfl ?_
      refine V_icmp_eq dX12_lastsWeek_17 (fun hc17 => ?_) (fun hc17 => ?_)
      · have go := go hc17
        refine V_aload dX12_lastsWeek_23 rfl ?_
        refine V_getRs fk_X12_79 dX12_lastsWeek_24 hM.1 hM.a1228.1 ?_
        refine V_iload dX12_lastsWeek_27 rfl ?_
        refine V_iald dX12_lastsWeek_28 hM.a1228.2 rfl (by omega) (by decide) ?_
        refine V_const dX12_lastsWeek_29 ?_
        refine V_icmp_eq dX12_lastsWeek_30 (fun hc30 => ?_) (fun hc30 => ?_)
        · rw [show lcM m i w J = J from if_neg (fun h => h.1 hc30)] at go; exact go
        · refine V_aload dX12_lastsWeek_33 rfl ?_
          refine V_getRs fk_X12_79 dX12_lastsWeek_34 hM.1 hM.a1228.1 ?_
          refine V_iload dX12_lastsWeek_37 rfl ?_
          refine V_iald dX12_lastsWeek_38 hM.a1228.2 rfl (by omega) (by decide) ?_
          refine V_iload dX12_lastsWeek_39 rfl ?_
          refine V_icmp_gt dX12_lastsWeek_40 (fun hc40 => ?_) (fun hc40 => ?_)
          · rw [show lcM m i w J = J from if_neg (fun h => by have h1 := h.2; rw [i_le] at h1; rw [i_lt] at hc40; omega)] at go; exact go
          · refine V_aload dX12_lastsWeek_43 rfl ?_
            refine V_getRs fk_X12_79 dX12_lastsWeek_44 hM.1 hM.a1228.1 ?_
            refine V_iload dX12_lastsWeek_47 rfl ?_
            refine V_const dX12_lastsWeek_48 ?_
            refine V_iast dX12_lastsWeek_49 hM.a1228.2 rfl (by omega) (by decide) ?_
            rw [show lcM m i w J = up2 J (m + 24) i (-1) from if_pos ⟨hc30, by rw [i_lt] at hc40; rw [i_le]; omega⟩] at go; exact go
      · refine V_goto dX12_lastsWeek_20 ?_
        refine V_ii3 dX12_lastsWeek_102 (by decide) (noL_i _) ?_
        refine V_goto dX12_lastsWeek_105 ?_
        exact V.sub (lsS (lsS (lsS (lsE (by rw [nI_1]) (lsN (lsN (lsN (lsN ls0)))))))) (ih (i + 1) _ h7 h8 (by omega) (by rw [itr, show lw1 m p kf w i J = J from if_neg hc17] at kk; exact kk))
theorem lp_X12_le {l : Launch} {D : va_G} {A : Nat → Prop} {z : Nat} {t : TT} {I : MI} {R : MR} {B : MR} {m p k N : Nat} {w : Int32} {Φ : PP} (hM : MSt m t R) (hp : p < 8) (hk : k < 4) (hN2 : N ≤ 300) (hN : I 1201 m = nI N) : ∀ (f : Nat) (nd : Int32) (J : MI), nd.toInt ≤ (f : Int) → 1 ≤ J (m + 2) k → ((leS m p k N f nd J).1 = false → Φ (some (.int 0)) z t I R (leS m p k N f nd J).2 B) → ((leS m p k N f nd J).1 = true → V l D A (rmm 2 0 0) mX12_lastsWeek (KS D A 0 0 Φ) 0 0 z t I R (leS m p k N f nd J).2 B 110 [some (va_rf (some m)), some (.int (nI p)), some (.int w), some (.int (nI (k + 1))), none, none, none, none] []) → V l D A (rmm 2 0 0) mX12_lastsWeek (KS D A 0 0 Φ) 0 0 z t I R J B 157 [some (va_rf (some m)), some (.int (nI p)), some (.int w), some (.int (nI k)), some (.int nd), none, none, none] [] := by
  intro f
  induction f with
  | zero =>
    intro nd J hf hr q kk
    have hz : nd ≤ 0 := by rw [i_le]; show nd.toInt ≤ 0; omega
    refine V_iload dX12_lastsWeek_157 rfl ?_
    refine V_if_le dX12_lastsWeek_159 (fun hc159 => ?_) (fun hc159 => ?_)
    · refine V_ii3 dX12_lastsWeek_235 (by decide) (noL_i _) ?_
      refine V_goto dX12_lastsWeek_238 ?_
      exact V.sub (lsS (lsS (lsS (lsE (by rw [nI_1]) (lsN (lsN (lsN (lsN ls0)))))))) (kk rfl)
    · exact absurd hz hc159
  | succ f ih =>
    intro nd J hf hr q kk
    refine V_iload dX12_lastsWeek_157 rfl ?_
    refine V_if_le dX12_lastsWeek_159 (fun hc159 => ?_) (fun hc159 => ?_)
    · refine V_ii3 dX12_lastsWeek_235 (by decide) (noL_i _) ?_
      refine V_goto dX12_lastsWeek_238 ?_
      exact V.sub (lsS (lsS (lsS (lsE (by rw [nI_1]) (lsN (lsN (lsN (lsN ls0)))))))) (by rw [leS, if_pos hc159] at kk; exact kk rfl)
    · refine V_aload dX12_lastsWeek_162 rfl ?_
      refine V_iload dX12_lastsWeek_163 rfl ?_
      refine V_iload dX12_lastsWeek_164 rfl ?_
      refine V_aload dX12_lastsWeek_165 rfl ?_
      refine V_getRs fk_X12_76 dX12_lastsWeek_166 hM.1 hM.a1227.1 ?_
      refine V_aload dX12_lastsWeek_169 rfl ?_
      refine V_getRs fk_X12_79 dX12_lastsWeek_170 hM.1 hM.a1228.1 ?_
      refine V_invV (As := [_, _, _, _]) mv_X12_oldest lk_X12_161 dX12_lastsWeek_173 (c := 12) (by decide) rfl rfl hM.1 rfl rfl (Nat.le_of_ble_eq_true rfl) ⟨⟨by decide, by decide⟩, by decide, by decide⟩ (sem_X12_oldest hM hN hN2 hM.a1227.2 hM.a1228.2 ?_)
      refine V_is6 dX12_lastsWeek_176 (by decide) noL_n ?_
      refine V_iload dX12_lastsWeek_178 rfl ?_
      refine V_const dX12_lastsWeek_180 ?_
      refine V_icmp_ne dX12_lastsWeek_181 (fun hc181 => ?_) (fun hc181 => ?_)
      · obtain ⟨l0, hl, hol⟩ := old_some hN2 hc181
        rw [show itr (oldF J m (nI p) (nI k) (J (m + 23)) (J (m + 24))) 0 N none = some l0 from hol]
        refine V_aload dX12_lastsWeek_186 rfl ?_
        refine V_getRs fk_X12_76 dX12_lastsWeek_187 hM.1 hM.a1227.1 ?_
        refine V_iload dX12_lastsWeek_190 rfl ?_
        refine V_dup2ir dX12_lastsWeek_192 ?_
        refine V_iald dX12_lastsWeek_193 hM.a1227.2 (i := l0) rfl (by omega) (by decide) ?_
        refine V_const dX12_lastsWeek_194 ?_
        refine V_isub dX12_lastsWeek_195 ?_
        refine V_iast dX12_lastsWeek_196 hM.a1227.2 (i := l0) rfl (by omega) (by decide) ?_
        refine V_iload dX12_lastsWeek_197 rfl ?_
        refine V_aload dX12_lastsWeek_199 rfl ?_
        refine V_getRs fk_X12_13 dX12_lastsWeek_200 hM.1 hM.a1206.1 ?_
        refine V_iload dX12_lastsWeek_203 rfl ?_
        refine V_ialds dX12_lastsWeek_204 hM.a1206.2 rfl (by omega) (by decide) (up2n (by omega)) ?_
        refine V_jmin dX12_lastsWeek_205 lk_X12_144 (by decide) (by decide) (by decide) (by decide) (Nat.le_of_ble_eq_true rfl) ?_
        refine V_is7 dX12_lastsWeek_208 (by decide) (noL_i _) ?_
        refine V_iload dX12_lastsWeek_210 rfl ?_
        refine V_iload dX12_lastsWeek_212 rfl ?_
        refine V_isub dX12_lastsWeek_214 ?_
        refine V_is4 dX12_lastsWeek_215 (by decide) (noL_i _) ?_
        refine V_aload dX12_lastsWeek_217 rfl ?_
        refine V_getRs fk_X12_82 dX12_lastsWeek_218 hM.1 hM.a1229.1 ?_
        refine V_iload dX12_lastsWeek_221 rfl ?_
        refine V_aload dX12_lastsWeek_222 rfl ?_
        refine V_getRs fk_X12_13 dX12_lastsWeek_223 hM.1 hM.a1206.1 ?_
        refine V_iload dX12_lastsWeek_226 rfl ?_
        refine V_ialds dX12_lastsWeek_227 hM.a1206.2 rfl (by omega) (by decide) (up2n (by omega)) ?_
        refine V_iload dX12_lastsWeek_228 rfl ?_
        refine V_isub dX12_lastsWeek_230 ?_
        refine V_iast dX12_lastsWeek_231 hM.a1229.2 rfl (by omega) (by decide) ?_
        refine V_goto dX12_lastsWeek_232 ?_
        have hj := jmin_pos hc159 hr
        exact V.sub (lsS (lsS (lsS (lsS (lsS (lsN (lsN (lsN ls0)))))))) (ih _ _ (by rw [sub_i (by omega) (by omega)]; omega) (by rw [up2n (by omega), up2n (by omega)]; exact hr) (by rw [leS, if_neg hc159, hol] at q; exact q) (by rw [leS, if_neg hc159, hol] at kk; exact kk))
      · have hol := old_none hN2 hc181
        refine V_const dX12_lastsWeek_184 ?_
        exact V_zret dX12_lastsWeek_185 rfl (by first | exact Or.inl rfl | exact Or.inr rfl) (by decide) (by decide) (by rw [leS, if_neg hc159, hol] at q; exact q rfl)
theorem lp_X12_lk {l : Launch} {D : va_G} {A : Nat → Prop} {z : Nat} {t : TT} {I : MI} {R : MR} {B : MR} {m p N : Nat} {w : Int32} {Φ : PP} (hM : MSt m t R) (hp : p < 8) (hN2 : N ≤ 300) (hN : I 1201 m = nI N) : ∀ (n k : Nat) (J : MI), k + n = 4 → LwOk m p J → Φ (some (.int (if (leA m p N n k J).1 = true then 1 else 0))) z t I R (leA m p N n k J).2 B → V l D A (rmm 2 0 0) mX12_lastsWeek (KS D A 0 0 Φ) 0 0 z t I R J B 110 [some (va_rf (some m)), some (.int (nI p)), some (.int w), some (.int (nI k)), none, none, none, none] [] := by
  intro n
  induction n with
  | zero =>
    intro k J hin hok q
    have hi : k = 4 := by omega
    subst hi
    refine V_iload dX12_lastsWeek_110 rfl ?_
    refine V_const dX12_lastsWeek_111 ?_
    refine V_icmp_ge dX12_lastsWeek_112 (fun hc112 => ?_) (fun hc112 => ?_)
    · refine V_const dX12_lastsWeek_241 ?_
      exact V_zret dX12_lastsWeek_242 rfl (by first | exact Or.inl rfl | exact Or.inr rfl) (by decide) (by decide) q
    · exact absurd (show (4 : Int32) ≤ nI 4 from Int32.le_refl _) hc112
  | succ n ih =>
    intro k J hin hok q
    refine V_iload dX12_lastsWeek_110 rfl ?_
    refine V_const dX12_lastsWeek_111 ?_
    refine V_icmp_ge dX12_lastsWeek_112 (fun hc112 => ?_) (fun hc112 => ?_)
    · exact absurd hc112 (show ¬ nI 4 ≤ nI k from nI_ge (by omega) (by decide))
    · refine V_const dX12_lastsWeek_115 ?_
      refine V_aload dX12_lastsWeek_117 rfl ?_
      refine V_getRs fk_X12_9 dX12_lastsWeek_118 hM.1 hM.a1205.1 ?_
      refine V_iload dX12_lastsWeek_121 rfl ?_
      refine V_iald dX12_lastsWeek_122 hM.a1205.2 rfl (by omega) (by decide) ?_
      refine V_imul dX12_lastsWeek_123 ?_
      refine V_is4 dX12_lastsWeek_124 (by decide) (noL_i _) ?_
      refine V_iload dX12_lastsWeek_126 rfl ?_
      refine V_aload dX12_lastsWeek_128 rfl ?_
      refine V_getRs fk_X12_82 dX12_lastsWeek_129 hM.1 hM.a1229.1 ?_
      refine V_iload dX12_lastsWeek_132 rfl ?_
      refine V_iald dX12_lastsWeek_133 hM.a1229.2 rfl (by omega) (by decide) ?_
      refine V_jmin dX12_lastsWeek_134 lk_X12_144 (by decide) (by decide) (by decide) (by decide) (Nat.le_of_ble_eq_true rfl) ?_
      refine V_is5 dX12_lastsWeek_137 (by decide) (noL_i _) ?_
      refine V_aload dX12_lastsWeek_139 rfl ?_
      refine V_getRs fk_X12_82 dX12_lastsWeek_140 hM.1 hM.a1229.1 ?_
      refine V_iload dX12_lastsWeek_143 rfl ?_
      refine V_dup2ir dX12_lastsWeek_144 ?_
      refine V_iald dX12_lastsWeek_145 hM.a1229.2 rfl (by omega) (by decide) ?_
      refine V_iload dX12_lastsWeek_146 rfl ?_
      refine V_isub dX12_lastsWeek_148 ?_
      refine V_iast dX12_lastsWeek_149 hM.a1229.2 rfl (by omega) (by decide) ?_
      refine V_iload dX12_lastsWeek_150 rfl ?_
      refine V_iload dX12_lastsWeek_152 rfl ?_
      refine V_isub dX12_lastsWeek_154 ?_
      refine V_is4 dX12_lastsWeek_155 (by decide) (noL_i _) ?_
      refine V.sub (lsS (lsS (lsS (lsS (lsS (lsN (lsN (lsN ls0)))))))) (lp_X12_le hM hp (by omega) hN2 hN 7000 _ _ (hok.need (by omega)) (by rw [up2n (by omega)]; exact hok.1 k (by omega)) (fun hb => ?_) (fun hb => ?_))
      · rw [leA_f (show (leK m p N k J).1 = false from hb)] at q
        exact q
      · exact ih (k + 1) _ (by omega) (hok.one (by omega)) (by rw [leA_t (show (leK m p N k J).1 = true from hb)] at q; exact q)
theorem sem_X12_lastsWeek {l : Launch} {D : va_G} {A : Nat → Prop} {z : Nat} {t : TT} {I : MI} {R : MR} {J : MI} {B : MR} {m N p : Nat} {w : Int32} {kf : Nat → Nat} {Φ : PP} (hM : MSt m t R) (hp : p < 8) (hN : I 1201 m = nI N) (hN2 : N ≤ 300) (hok : LwOk m p J) (hk : ∀ l, l < N → J (m + 7) l = nI (kf l) ∧ kf l < 4) (hd : ∀ l, l < N → 0 ≤ (w - J (m + 8) l) / 4) (q : Φ (some (.int (if (lwA m p N kf w J).1 = true then 1 else 0))) z t I R (lwA m p N kf w J).2 B) : Sem l D A 2 0 0 mX12_lastsWeek [va_rf (some m), .int (nI p), .int w] z t I R J B Φ := by
  refine Sem.run [some (va_rf (some m)), some (.int (nI p)), some (.int w), none, none, none, none, none] (by decide) rfl (ent_r (ent_i (ent_i (ent_none (ent_none (ent_none (ent_none (ent_none ent_nil)))))))) ?_
  refine V_const dX12_lastsWeek_0 ?_
  refine V_is3 dX12_lastsWeek_1 (by decide) (noL_i _) ?_
  refine V.sub (lsS (lsS (lsS (lsS (lsN (lsN (lsN (lsN ls0)))))))) (lp_X12_lw1 hM hN hN2 hk hd N 0 J rfl rfl (by omega) ?_)
  refine V_const dX12_lastsWeek_108 ?_
  refine V_is3 dX12_lastsWeek_109 (by decide) (noL_i _) ?_
  exact V.sub (lsS (lsS (lsS (lsS (lsN (lsN (lsN (lsN ls0)))))))) (lp_X12_lk hM hp hN2 hN 4 0 _ rfl hok.lw q)
def la0 (m : Nat) (l : Nat) (J : MI) : MI := up2 (up2 J (m + 23) l (J (m + 9) l)) (m + 24) l (J (m + 11) l)
def la1 (m p : Nat) (k : Nat) (J : MI) : MI := up2 J (m + 25) k (J (m + 19) (4 * p + k))
theorem la0_keep {m b l : Nat} {J : MI} (h1 : b ≠ m + 23) (h2 : b ≠ m + 24) : la0 m l J b = J b := by
  unfold la0; rw [up2_ne _ _ _ h2, up2_ne _ _ _ h1]
theorem la1_keep {m p b k : Nat} {J : MI} (h1 : b ≠ m + 25) : la1 m p k J b = J b := by
  unfold la1; rw [up2_ne _ _ _ h1]
theorem lp_X12_la0 {l : Launch} {D : va_G} {A : Nat → Prop} {z : Nat} {t : TT} {I : MI} {R : MR} {B : MR} {m N p : Nat} {Φ : PP} (hM : MSt m t R) (hN : I 1201 m = nI N) (hN2 : N ≤ 300) : ∀ (n i : Nat) (J : MI), i + n = N → V l D A (rmm 3 0 0) mX12_lasts (KS D A 0 0 Φ) 0 0 z t I R (itr (la0 m) i n J) B 49 [some (va_rf (some m)), some (.int (nI p)), none] [] → V l D A (rmm 3 0 0) mX12_lasts (KS D A 0 0 Φ) 0 0 z t I R J B 11 [some (va_rf (some m)), some (.int (nI p)), some (.int (nI i))] [] := by
  intro n
  induction n with
  | zero =>
    intro i J hin kk
    have hi : i = N := by omega
    subst hi
    refine V_iload dX12_lasts_11 rfl ?_
    refine V_aload dX12_lasts_12 rfl ?_
    refine V_getIs fk_X12_126 dX12_lasts_13 hM.1 hN ?_
    refine V_icmp_ge dX12_lasts_16 (fun hc16 => ?_) (fun hc16 => ?_)
    · exact V.sub (lsS (lsS (lsN ls0))) kk
    · exact absurd (Int32.le_refl _) hc16
  | succ n ih =>
    intro i J hin kk
    refine V_iload dX12_lasts_11 rfl ?_
    refine V_aload dX12_lasts_12 rfl ?_
    refine V_getIs fk_X12_126 dX12_lasts_13 hM.1 hN ?_
    refine V_icmp_ge dX12_lasts_16 (fun hc16 => ?_) (fun hc16 => ?_)
    · exact absurd hc16 (nI_ge (by omega) (by omega))
    · refine V_aload dX12_lasts_19 rfl ?_
      refine V_getRs fk_X12_76 dX12_lasts_20 hM.1 hM.a1227.1 ?_
      refine V_iload dX12_lasts_23 rfl ?_
      refine V_aload dX12_lasts_24 rfl ?_
      refine V_getRs fk_X12_34 dX12_lasts_25 hM.1 hM.a1213.1 ?_
      refine V_iload dX12_lasts_28 rfl ?_
      refine V_iald dX12_lasts_29 hM.a1213.2 rfl (by omega) (by decide) ?_
      refine V_iast dX12_lasts_30 hM.a1227.2 rfl (by omega) (by decide) ?_
      refine V_aload dX12_lasts_31 rfl ?_
      refine V_getRs fk_X12_79 dX12_lasts_32 hM.1 hM.a1228.1 ?_
      refine V_iload dX12_lasts_35 rfl ?_
      refine V_aload dX12_lasts_36 rfl ?_
      refine V_getRs fk_X12_40 dX12_lasts_37 hM.1 hM.a1215.1 ?_
      refine V_iload dX12_lasts_40 rfl ?_
      refine V_ialds dX12_lasts_41 hM.a1215.2 rfl (by omega) (by decide) (up2n (by omega)) ?_
      refine V_iast dX12_lasts_42 hM.a1228.2 rfl (by omega) (by decide) ?_
      refine V_ii2 dX12_lasts_43 (by decide) (noL_i _) ?_
      refine V_goto dX12_lasts_46 ?_
      exact V.sub (lsS (lsS (lsE (by rw [nI_1]) ls0))) (ih (i + 1) _ (by omega) kk)
theorem lp_X12_la1 {l : Launch} {D : va_G} {A : Nat → Prop} {z : Nat} {t : TT} {I : MI} {R : MR} {B : MR} {m p : Nat} {Φ : PP} (hM : MSt m t R) (hp : p < 8) : ∀ (n i : Nat) (J : MI), i + n = 4 → V l D A (rmm 3 0 0) mX12_lasts (KS D A 0 0 Φ) 0 0 z t I R (itr (la1 m p) i n J) B 78 [some (va_rf (some m)), some (.int (nI p)), none] [] → V l D A (rmm 3 0 0) mX12_lasts (KS D A 0 0 Φ) 0 0 z t I R J B 51 [some (va_rf (some m)), some (.int (nI p)), some (.int (nI i))] [] := by
  intro n
  induction n with
  | zero =>
    intro i J hin kk
    have hi : i = 4 := by omega
    subst hi
    refine V_iload dX12_lasts_51 rfl ?_
    refine V_const dX12_lasts_52 ?_
    refine V_icmp_ge dX12_lasts_53 (fun hc53 => ?_) (fun hc53 => ?_)
    · exact V.sub (lsS (lsS (lsN ls0))) kk
    · exact absurd (show (4 : Int32) ≤ nI 4 from Int32.le_refl _) hc53
  | succ n ih =>
    intro i J hin kk
    refine V_iload dX12_lasts_51 rfl ?_
    refine V_const dX12_lasts_52 ?_
    refine V_icmp_ge dX12_lasts_53 (fun hc53 => ?_) (fun hc53 => ?_)
    · exact absurd hc53 (show ¬ nI 4 ≤ nI i from nI_ge (by omega) (by decide))
    · refine V_aload dX12_lasts_56 rfl ?_
      refine V_getRs fk_X12_82 dX12_lasts_57 hM.1 hM.a1229.1 ?_
      refine V_iload dX12_lasts_60 rfl ?_
      refine V_aload dX12_lasts_61 rfl ?_
      refine V_getRs fk_X12_64 dX12_lasts_62 hM.1 hM.a1223.1 ?_
      refine V_const dX12_lasts_65 ?_
      refine V_iload dX12_lasts_66 rfl ?_
      refine V_imul dX12_lasts_67 ?_
      refine V_iload dX12_lasts_68 rfl ?_
      refine V_iadd dX12_lasts_69 ?_
      refine V_iald dX12_lasts_70 hM.a1223.2 (i := 4 * p + i) (by rw [show (4 : Int32) = nI 4 from rfl, pk_mul, nI_add]) (by omega) (by decide) ?_
      refine V_iast dX12_lasts_71 hM.a1229.2 rfl (by omega) (by decide) ?_
      refine V_ii2 dX12_lasts_72 (by decide) (noL_i _) ?_
      refine V_goto dX12_lasts_75 ?_
      exact V.sub (lsS (lsS (lsE (by rw [nI_1]) ls0))) (ih (i + 1) _ (by omega) kk)
theorem lp_X12_lasts {l : Launch} {D : va_G} {A : Nat → Prop} {z : Nat} {t : TT} {I : MI} {R : MR} {B : MR} {m p w N : Nat} {kf : Nat → Nat} {K7 K8 : Nat → Int32} {Φ : PP} (hM : MSt m t R) (hp : p < 8) (hN : I 1201 m = nI N) (hN2 : N ≤ 300) (hw : I 1200 m = nI w) (hk : ∀ l, l < N → K7 l = nI (kf l) ∧ kf l < 4) (hd : ∀ i l, i < 60 → l < N → 0 ≤ (nI (w + i) - K8 l) / 4) : ∀ (n i : Nat) (J : MI), i + n = 60 → LwOk m p J → J (m + 7) = K7 → J (m + 8) = K8 → Φ (some (.int (nI (laN m p w N kf n i J).1))) z t I R (laN m p w N kf n i J).2 B → V l D A (rmm 3 0 0) mX12_lasts (KS D A 0 0 Φ) 0 0 z t I R J B 80 [some (va_rf (some m)), some (.int (nI p)), some (.int (nI i))] [] := by
  intro n
  induction n with
  | zero =>
    intro i J hin hok h7 h8 q
    have hi : i = 60 := by omega
    subst hi
    refine V_iload dX12_lasts_80 rfl ?_
    refine V_const dX12_lasts_81 ?_
    refine V_icmp_ge dX12_lasts_83 (fun hc83 => ?_) (fun hc83 => ?_)
    · refine V_iload dX12_lasts_106 rfl ?_
      exact V_iret dX12_lasts_107 rfl (by decide) (by decide) q
    · exact absurd (show (60 : Int32) ≤ nI 60 from Int32.le_refl _) hc83
  | succ n ih =>
    intro i J hin hok h7 h8 q
    refine V_iload dX12_lasts_80 rfl ?_
    refine V_const dX12_lasts_81 ?_
    refine V_icmp_ge dX12_lasts_83 (fun hc83 => ?_) (fun hc83 => ?_)
    · exact absurd hc83 (show ¬ nI 60 ≤ nI i from nI_ge (by omega) (by decide))
    · refine V_aload dX12_lasts_86 rfl ?_
      refine V_iload dX12_lasts_87 rfl ?_
      refine V_aload dX12_lasts_88 rfl ?_
      refine V_getIs fk_X12_131 dX12_lasts_89 hM.1 hw ?_
      refine V_iload dX12_lasts_92 rfl ?_
      refine V_iadd dX12_lasts_93 ?_
      rw [nI_add]
      refine V_invV (As := [_, _]) mv_X12_lastsWeek lk_X12_168 dX12_lasts_94 (c := 12) (by decide) rfl rfl hM.1 rfl rfl (Nat.le_of_ble_eq_true rfl) ⟨⟨by decide, by decide⟩, by decide, by decide⟩ (sem_X12_lastsWeek (kf := kf) hM hp hN hN2 hok (by rw [h7]; exact hk) (fun l hl => by rw [h8]; exact hd i l (by omega) hl) ?_)
      refine V_if_eq dX12_lasts_97 (fun hc97 => ?_) (fun hc97 => ?_)
      · have hb : ¬ (lwA m p N kf (nI (w + i)) J).1 = true := fun h => by rw [if_pos h] at hc97; exact absurd hc97 (by decide)
        refine V_iload dX12_lasts_106 rfl ?_
        exact V_iret dX12_lasts_107 rfl (by decide) (by decide) (by rw [laN, if_neg hb] at q; exact q)
      · have hb : (lwA m p N kf (nI (w + i)) J).1 = true := Classical.byContradiction (fun h => hc97 (if_neg h))
        refine V_ii2 dX12_lasts_100 (by decide) (noL_i _) ?_
        refine V_goto dX12_lasts_103 ?_
        exact V.sub (lsS (lsS (lsE (by rw [nI_1]) ls0))) (ih (i + 1) _ (by omega) hok.lwA ((lwA_keep (by omega) (by omega) (by omega)).trans h7) ((lwA_keep (by omega) (by omega) (by omega)).trans h8) (by rw [laN, if_pos hb] at q; exact q))
theorem LwOk.la {m p N : Nat} {J : MI} (hp : p < 8) (h1 : ∀ k, k < 4 → 1 ≤ J (m + 2) k) (h2 : 0 ≤ J (m + 1) p ∧ J (m + 1) p ≤ 1000) (h3 : ∀ k, k < 4 → 0 ≤ J (m + 19) (4 * p + k)) : LwOk m p (itr (la1 m p) 0 4 (itr (la0 m) 0 N J)) := by
  have k0 : ∀ b, b ≠ m + 23 → b ≠ m + 24 → itr (la0 m) 0 N J b = J b := fun b e1 e2 => itr_keep (fun l J => la0_keep e1 e2) _ _ _
  generalize itr (la0 m) 0 N J = J0 at k0
  refine ⟨fun k hk => ?_, ?_, fun k hk => ?_⟩
  · rw [itr_keep (fun l J => la1_keep (by omega)), k0 _ (by omega) (by omega)]; exact h1 k hk
  · rw [itr_keep (fun l J => la1_keep (by omega)), k0 _ (by omega) (by omega)]; exact h2
  · have h4 : ∀ k, k < 4 → 0 ≤ J0 (m + 19) (4 * p + k) := fun k hk => by rw [k0 _ (by omega) (by omega)]; exact h3 k hk
    have a0 := h4 0 (by omega)
    have a1 := h4 1 (by omega)
    have a2 := h4 2 (by omega)
    have a3 := h4 3 (by omega)
    simp only [itr, la1]
    rcases (show k = 0 ∨ k = 1 ∨ k = 2 ∨ k = 3 by omega) with rfl | rfl | rfl | rfl
    · rw [up2o (by decide), up2o (by decide), up2o (by decide), up2s]; exact a0
    · rw [up2o (by decide), up2o (by decide), up2s, up2n (by omega)]; exact a1
    · rw [up2o (by decide), up2s, up2n (by omega), up2n (by omega)]; exact a2
    · rw [up2s, up2n (by omega), up2n (by omega), up2n (by omega)]; exact a3
theorem sem_X12_lasts {l : Launch} {D : va_G} {A : Nat → Prop} {z : Nat} {t : TT} {I : MI} {R : MR} {J : MI} {B : MR} {m N w : Nat} {v : Int32} {kf : Nat → Nat} {Φ : PP} (hM : MSt m t R) (hN : I 1201 m = nI N) (hN2 : N ≤ 300) (hw : I 1200 m = nI w) (h1 : ∀ k, k < 4 → 1 ≤ J (m + 2) k) (h2 : ∀ p, p < 8 → 0 ≤ J (m + 1) p ∧ J (m + 1) p ≤ 1000) (h3 : ∀ i, i < 32 → 0 ≤ J (m + 19) i) (hk : ∀ l, l < N → J (m + 7) l = nI (kf l) ∧ kf l < 4) (hd : ∀ i l, i < 60 → l < N → 0 ≤ (nI (w + i) - J (m + 8) l) / 4) (q0 : (∀ i, i < 8 → v ≠ nI i) → Φ (some (.int (-1))) z t I R J B) (q : ∀ p, p < 8 → v = nI p → Φ (some (.int (nI (laN m p w N kf 60 0 (itr (la1 m p) 0 4 (itr (la0 m) 0 N J))).1))) z t I R (laN m p w N kf 60 0 (itr (la1 m p) 0 4 (itr (la0 m) 0 N J))).2 B) : Sem l D A 3 0 0 mX12_lasts [va_rf (some m), .int v] z t I R J B Φ := by
  refine Sem.run [some (va_rf (some m)), some (.int v), none] (by decide) rfl (ent_r (ent_i (ent_none ent_nil))) ?_
  refine V_iload dX12_lasts_0 rfl ?_
  refine V_invS (As := [_]) ms_X12_isPlace lk_X12_119 dX12_lasts_1 rfl rfl rfl (Nat.le_of_ble_eq_true rfl) ⟨⟨by decide, by decide⟩, by decide, by decide⟩ (sem_X12_isPlace ?_)
  refine V_if_ne dX12_lasts_4 (fun hc4 => ?_) (fun hc4 => ?_)
  · rw [bI_n0] at hc4
    obtain ⟨p, hp, hvp⟩ := i_rng (N := 8) rfl hc4
    subst hvp
    refine V_const dX12_lasts_9 ?_
    refine V_is2 dX12_lasts_10 (by decide) (noL_i _) ?_
    refine V.sub (lsS (lsS (lsS ls0))) (lp_X12_la0 hM hN hN2 N 0 J (by omega) ?_)
    refine V_const dX12_lasts_49 ?_
    refine V_is2 dX12_lasts_50 (by decide) (noL_i _) ?_
    refine V.sub (lsS (lsS (lsS ls0))) (lp_X12_la1 hM hp 4 0 _ rfl ?_)
    refine V_const dX12_lasts_78 ?_
    refine V_is2 dX12_lasts_79 (by decide) (noL_i _) ?_
    exact V.sub (lsS (lsS (lsS ls0))) (lp_X12_lasts hM hp hN hN2 hw hk hd 60 0 _ rfl (LwOk.la hp h1 (h2 p hp) (fun k hk => h3 _ (by omega))) (by rw [itr_keep (fun l J => la1_keep (by omega)), itr_keep (fun l J => la0_keep (by omega) (by omega))]) (by rw [itr_keep (fun l J => la1_keep (by omega)), itr_keep (fun l J => la0_keep (by omega) (by omega))]) (q p hp rfl))
  · rw [bI_0] at hc4
    refine V_const dX12_lasts_7 ?_
    exact V_iret dX12_lasts_8 rfl (by decide) (by decide) (q0 (i_out (N := 8) rfl (by decide) hc4))
