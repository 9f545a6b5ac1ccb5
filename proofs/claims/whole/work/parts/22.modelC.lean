-- THE REFERENCE: stocks, spoiling, the oldest lot
theorem age_pos {v : Int32} (h : 0 ≤ v) : jmin 9 v = nI (ageN v) := by
  rw [← (age_ok v).1]
  have h1 : (0 : Int32) ≤ jmin 9 v := by
    unfold jmin
    split
    · exact h
    · decide
  unfold jmax
  split
  · rfl
  · rename_i h2
    rw [i_le] at h1
    rw [i_lt] at h2
    exact Int32.toInt_inj.mp (by omega)
def partM (f : Nat → Int32) (i : Nat) (s : Int32) : Int32 := if s = 0 then f i else jmin 1000 (2 * f i)
theorem sem_X12_part {l : Launch} {D : va_G} {A : Nat → Prop} {z : Nat} {t : TT} {I : MI} {R : MR} {J : MI} {B : MR} {m k : Nat} {wk fr s : Int32} {Φ : PP} (hM : MSt m t R) (hk : k < 4) (hd : 0 ≤ (wk - fr) / 4) (q : Φ (some (.int (partM (J (m + 3)) (10 * k + ageN ((wk - fr) / 4)) s))) z t I R J B) : Sem l D A 1 0 0 mX12_part [va_rf (some m), .int (nI k), .int wk, .int fr, .int s] z t I R J B Φ := by
  refine Sem.run [some (va_rf (some m)), some (.int (nI k)), some (.int wk), some (.int fr), some (.int s), none] (by decide) rfl (ent_r (ent_i (ent_i (ent_i (ent_i (ent_none ent_nil)))))) ?_
  refine V_aload dX12_part_0 rfl ?_
  refine V_getRs fk_X12_16 dX12_part_1 hM.1 hM.a1207.1 ?_
  refine V_const dX12_part_4 ?_
  refine V_iload dX12_part_6 rfl ?_
  refine V_imul dX12_part_7 ?_
  refine V_const dX12_part_8 ?_
  refine V_iload dX12_part_10 rfl ?_
  refine V_iload dX12_part_11 rfl ?_
  refine V_isub dX12_part_12 ?_
  refine V_const dX12_part_13 ?_
  refine V_idiv dX12_part_14 (by decide) ?_
  refine V_jmin dX12_part_15 lk_X12_144 (by decide) (by decide) (by decide) (by decide) (Nat.le_of_ble_eq_true rfl) ?_
  refine V_iadd dX12_part_18 ?_
  refine V_iald dX12_part_19 hM.a1207.2 (i := 10 * k + ageN ((wk - fr) / 4)) (by rw [age_pos hd, show (10 : Int32) = nI 10 from rfl, pk_mul, nI_add]) (by have := (age_ok ((wk - fr) / 4)).2; omega) (by decide) ?_
  refine V_is5 dX12_part_20 (by decide) (noL_i _) ?_
  refine V_iload dX12_part_22 rfl ?_
  refine V_if_eq dX12_part_24 (fun hc24 => ?_) (fun hc24 => ?_)
  · refine V_iload dX12_part_40 rfl ?_
    exact V_iret dX12_part_42 rfl (by decide) (by decide) (by unfold partM at q; rw [if_pos hc24] at q; exact q)
  · refine V_const dX12_part_27 ?_
    refine V_const dX12_part_30 ?_
    refine V_iload dX12_part_31 rfl ?_
    refine V_imul dX12_part_33 ?_
    refine V_jmin dX12_part_34 lk_X12_144 (by decide) (by decide) (by decide) (by decide) (Nat.le_of_ble_eq_true rfl) ?_
    refine V_goto dX12_part_37 ?_
    exact V_iret dX12_part_42 rfl (by decide) (by decide) (by unfold partM at q; rw [if_neg hc24] at q; exact q)
def stkM (J : MI) (m : Nat) (p k : Int32) (l : Nat) (s : Int32) : Int32 := s + (if J (m + 10) l = p ∧ J (m + 7) l = k ∧ J (m + 11) l = -1 then J (m + 9) l else 0)
theorem lp_X12_stockOf {l : Launch} {D : va_G} {A : Nat → Prop} {z : Nat} {t : TT} {I : MI} {R : MR} {J : MI} {B : MR} {m N : Nat} {p k : Int32} {Φ : PP} (hM : MSt m t R) (hN : I 1201 m = nI N) (hN2 : N ≤ 300) : ∀ (n i : Nat) (s : Int32), i + n = N → Φ (some (.int (itr (stkM J m p k) i n s))) z t I R J B → V l D A (rmm 0 0 0) mX12_stockOf (KS D A 0 0 Φ) 0 0 z t I R J B 5 [some (va_rf (some m)), some (.int p), some (.int k), some (.int s), some (.int (nI i))] [] := by
  intro n
  induction n with
  | zero =>
    intro i s hin q
    have hi : i = N := by omega
    subst hi
    refine V_iload dX12_stockOf_5 rfl ?_
    refine V_aload dX12_stockOf_7 rfl ?_
    refine V_getIs fk_X12_126 dX12_stockOf_8 hM.1 hN ?_
    refine V_icmp_ge dX12_stockOf_11 (fun hc11 => ?_) (fun hc11 => ?_)
    · refine V_iload dX12_stockOf_67 rfl ?_
      exact V_iret dX12_stockOf_68 rfl (by decide) (by decide) q
    · exact absurd (Int32.le_refl _) hc11
  | succ n ih =>
    intro i s hin q
    refine V_iload dX12_stockOf_5 rfl ?_
    refine V_aload dX12_stockOf_7 rfl ?_
    refine V_getIs fk_X12_126 dX12_stockOf_8 hM.1 hN ?_
    refine V_icmp_ge dX12_stockOf_11 (fun hc11 => ?_) (fun hc11 => ?_)
    · exact absurd hc11 (nI_ge (by omega) (by omega))
    · refine V_iload dX12_stockOf_14 rfl ?_
      refine V_aload dX12_stockOf_15 rfl ?_
      refine V_getRs fk_X12_37 dX12_stockOf_16 hM.1 hM.a1214.1 ?_
      refine V_iload dX12_stockOf_19 rfl ?_
      refine V_iald dX12_stockOf_21 hM.a1214.2 rfl (by omega) (by decide) ?_
      refine V_iload dX12_stockOf_22 rfl ?_
      refine V_icmp_ne dX12_stockOf_23 (fun hc23 => ?_) (fun hc23 => ?_)
      · refine V_const dX12_stockOf_58 ?_
        refine V_iadd dX12_stockOf_59 ?_
        refine V_is3 dX12_stockOf_60 (by decide) (noL_i _) ?_
        refine V_ii4 dX12_stockOf_61 (by decide) (noL_i _) ?_
        refine V_goto dX12_stockOf_64 ?_
        exact V.sub (lsS (lsS (lsS (lsS (lsE (by rw [nI_1]) ls0))))) (ih (i + 1) _ (by omega) (by rw [itr] at q; unfold stkM at q; rw [if_neg (fun h => hc23 h.1)] at q; exact q))
      · refine V_aload dX12_stockOf_26 rfl ?_
        refine V_getRs fk_X12_28 dX12_stockOf_27 hM.1 hM.a1211.1 ?_
        refine V_iload dX12_stockOf_30 rfl ?_
        refine V_iald dX12_stockOf_32 hM.a1211.2 rfl (by omega) (by decide) ?_
        refine V_iload dX12_stockOf_33 rfl ?_
        refine V_icmp_ne dX12_stockOf_34 (fun hc34 => ?_) (fun hc34 => ?_)
        · refine V_const dX12_stockOf_58 ?_
          refine V_iadd dX12_stockOf_59 ?_
          refine V_is3 dX12_stockOf_60 (by decide) (noL_i _) ?_
          refine V_ii4 dX12_stockOf_61 (by decide) (noL_i _) ?_
          refine V_goto dX12_stockOf_64 ?_
          exact V.sub (lsS (lsS (lsS (lsS (lsE (by rw [nI_1]) ls0))))) (ih (i + 1) _ (by omega) (by rw [itr] at q; unfold stkM at q; rw [if_neg (fun h => hc34 h.2.1)] at q; exact q))
        · refine V_aload dX12_stockOf_37 rfl ?_
          refine V_getRs fk_X12_40 dX12_stockOf_38 hM.1 hM.a1215.1 ?_
          refine V_iload dX12_stockOf_41 rfl ?_
          refine V_iald dX12_stockOf_43 hM.a1215.2 rfl (by omega) (by decide) ?_
          refine V_const dX12_stockOf_44 ?_
          refine V_icmp_ne dX12_stockOf_45 (fun hc45 => ?_) (fun hc45 => ?_)
          · refine V_const dX12_stockOf_58 ?_
            refine V_iadd dX12_stockOf_59 ?_
            refine V_is3 dX12_stockOf_60 (by decide) (noL_i _) ?_
            refine V_ii4 dX12_stockOf_61 (by decide) (noL_i _) ?_
            refine V_goto dX12_stockOf_64 ?_
            exact V.sub (lsS (lsS (lsS (lsS (lsE (by rw [nI_1]) ls0))))) (ih (i + 1) _ (by omega) (by rw [itr] at q; unfold stkM at q; rw [if_neg (fun h => hc45 h.2.2)] at q; exact q))
          · refine V_aload dX12_stockOf_48 rfl ?_
            refine V_getRs fk_X12_34 dX12_stockOf_49 hM.1 hM.a1213.1 ?_
            refine V_iload dX12_stockOf_52 rfl ?_
            refine V_iald dX12_stockOf_54 hM.a1213.2 rfl (by omega) (by decide) ?_
            refine V_goto dX12_stockOf_55 ?_
            refine V_iadd dX12_stockOf_59 ?_
            refine V_is3 dX12_stockOf_60 (by decide) (noL_i _) ?_
            refine V_ii4 dX12_stockOf_61 (by decide) (noL_i _) ?_
            refine V_goto dX12_stockOf_64 ?_
            exact V.sub (lsS (lsS (lsS (lsS (lsE (by rw [nI_1]) ls0))))) (ih (i + 1) _ (by omega) (by rw [itr] at q; unfold stkM at q; rw [if_pos ⟨hc23, hc34, hc45⟩] at q; exact q))
theorem sem_X12_stockOf {l : Launch} {D : va_G} {A : Nat → Prop} {z : Nat} {t : TT} {I : MI} {R : MR} {J : MI} {B : MR} {m N : Nat} {p k : Int32} {Φ : PP} (hM : MSt m t R) (hN : I 1201 m = nI N) (hN2 : N ≤ 300) (q : Φ (some (.int (itr (stkM J m p k) 0 N 0))) z t I R J B) : Sem l D A 0 0 0 mX12_stockOf [va_rf (some m), .int p, .int k] z t I R J B Φ := by
  refine Sem.run [some (va_rf (some m)), some (.int p), some (.int k), none, none] (by decide) rfl (ent_r (ent_i (ent_i (ent_none (ent_none ent_nil))))) ?_
  refine V_const dX12_stockOf_0 ?_
  refine V_is3 dX12_stockOf_1 (by decide) (noL_i _) ?_
  refine V_const dX12_stockOf_2 ?_
  refine V_is4 dX12_stockOf_3 (by decide) (noL_i _) ?_
  exact lp_X12_stockOf hM hN hN2 N 0 0 (by omega) q
def oI (o : Option Nat) : Int32 := match o with
  | none => -1
  | some b => nI b
/-- is lot l a better one to be eaten than o -/
def oldC (J : MI) (m : Nat) (p k : Int32) (of cm : Nat → Int32) (l : Nat) (o : Option Nat) : Prop := J (m + 10) l = p ∧ J (m + 7) l = k ∧ cm l = -1 ∧ 0 < of l ∧ ∀ b, o = some b → J (m + 8) l < J (m + 8) b
noncomputable def oldF (J : MI) (m : Nat) (p k : Int32) (of cm : Nat → Int32) (l : Nat) (o : Option Nat) : Option Nat := @ite _ (oldC J m p k of cm l o) (Classical.propDecidable _) (some l) o
theorem oldF_t {J : MI} {m : Nat} {p k : Int32} {of cm : Nat → Int32} {l : Nat} {o : Option Nat} (h : oldC J m p k of cm l o) : oldF J m p k of cm l o = some l := if_pos h
theorem oldF_f {J : MI} {m : Nat} {p k : Int32} {of cm : Nat → Int32} {l : Nat} {o : Option Nat} (h : ¬ oldC J m p k of cm l o) : oldF J m p k of cm l o = o := if_neg h
theorem oI_none {o : Option Nat} (ho : ∀ b, o = some b → b < 300) : oI o = -1 ↔ o = none := by
  cases o with
  | none => exact ⟨fun _ => rfl, fun _ => rfl⟩
  | some b =>
    have hb := ho b rfl
    refine ⟨fun h => ?_, fun h => by cases h⟩
    have h1 : (nI b).toInt = (-1 : Int32).toInt := by rw [show nI b = -1 from h]
    rw [nI_toInt (by omega)] at h1
    have h2 : (-1 : Int32).toInt = -1 := rfl
    omega
theorem lp_X12_oldest {l : Launch} {D : va_G} {A : Nat → Prop} {z : Nat} {t : TT} {I : MI} {R : MR} {J : MI} {B : MR} {m N ao ac : Nat} {p k : Int32} {Φ : PP} (hM : MSt m t R) (hN : I 1201 m = nI N) (hN2 : N ≤ 300) (hof : t ao = (20, 300)) (hcm : t ac = (20, 300)) : ∀ (n i : Nat) (o : Option Nat), i + n = N → (∀ b, o = some b → b < i) → Φ (some (.int (oI (itr (oldF J m p k (J ao) (J ac)) i n o)))) z t I R J B → V l D A (rmm 0 0 0) mX12_oldest (KS D A 0 0 Φ) 0 0 z t I R J B 6 [some (va_rf (some m)), some (.int p), some (.int k), some (va_rf (some ao)), some (va_rf (some ac)), some (.int (oI o)), some (.int (nI i))] [] := by
  intro n
  induction n with
  | zero =>
    intro i o hin ho q
    have hi : i = N := by omega
    subst hi
    refine V_iload dX12_oldest_6 rfl ?_
    refine V_aload dX12_oldest_8 rfl ?_
    refine V_getIs fk_X12_126 dX12_oldest_9 hM.1 hN ?_
    refine V_icmp_ge dX12_oldest_12 (fun hc12 => ?_) (fun hc12 => ?_)
    · refine V_iload dX12_oldest_86 rfl ?_
      exact V_iret dX12_oldest_88 rfl (by decide) (by decide) q
    · exact absurd (Int32.le_refl _) hc12
  | succ n ih =>
    intro i o hin ho q
    refine V_iload dX12_oldest_6 rfl ?_
    refine V_aload dX12_oldest_8 rfl ?_
    refine V_getIs fk_X12_126 dX12_oldest_9 hM.1 hN ?_
    refine V_icmp_ge dX12_oldest_12 (fun hc12 => ?_) (fun hc12 => ?_)
    · exact absurd hc12 (nI_ge (by omega) (by omega))
    · refine V_aload dX12_oldest_15 rfl ?_
      refine V_getRs fk_X12_37 dX12_oldest_16 hM.1 hM.a1214.1 ?_
      refine V_iload dX12_oldest_19 rfl ?_
      refine V_iald dX12_oldest_21 hM.a1214.2 rfl (by omega) (by decide) ?_
      refine V_iload dX12_oldest_22 rfl ?_
      refine V_icmp_ne dX12_oldest_23 (fun hc23 => ?_) (fun hc23 => ?_)
      · refine V_ii6 dX12_oldest_80 (by decide) (noL_i _) ?_
        refine V_goto dX12_oldest_83 ?_
        exact V.sub (lsS (lsS (lsS (lsS (lsS (lsS (lsE (by rw [nI_1]) ls0))))))) (ih (i + 1) _ (by omega) (fun b hb => by have := ho b hb; omega) (by rw [itr, oldF_f (fun h => hc23 h.1)] at q; exact q))
      · refine V_aload dX12_oldest_26 rfl ?_
        refine V_getRs fk_X12_28 dX12_oldest_27 hM.1 hM.a1211.1 ?_
        refine V_iload dX12_oldest_30 rfl ?_
        refine V_iald dX12_oldest_32 hM.a1211.2 rfl (by omega) (by decide) ?_
        refine V_iload dX12_oldest_33 rfl ?_
        refine V_icmp_ne dX12_oldest_34 (fun hc34 => ?_) (fun hc34 => ?_)
        · refine V_ii6 dX12_oldest_80 (by decide) (noL_i _) ?_
          refine V_goto dX12_oldest_83 ?_
          exact V.sub (lsS (lsS (lsS (lsS (lsS (lsS (lsE (by rw [nI_1]) ls0))))))) (ih (i + 1) _ (by omega) (fun b hb => by have := ho b hb; omega) (by rw [itr, oldF_f (fun h => hc34 h.2.1)] at q; exact q))
        · refine V_aload dX12_oldest_37 rfl ?_
          refine V_iload dX12_oldest_39 rfl ?_
          refine V_iald dX12_oldest_41 hcm rfl (by omega) (by decide) ?_
          refine V_const dX12_oldest_42 ?_
          refine V_icmp_ne dX12_oldest_43 (fun hc43 => ?_) (fun hc43 => ?_)
          · refine V_ii6 dX12_oldest_80 (by decide) (noL_i _) ?_
            refine V_goto dX12_oldest_83 ?_
            exact V.sub (lsS (lsS (lsS (lsS (lsS (lsS (lsE (by rw [nI_1]) ls0))))))) (ih (i + 1) _ (by omega) (fun b hb => by have := ho b hb; omega) (by rw [itr, oldF_f (fun h => hc43 h.2.2.1)] at q; exact q))
          · refine V_aload dX12_oldest_46 rfl ?_
            refine V_iload dX12_oldest_47 rfl ?_
            refine V_iald dX12_oldest_49 hof rfl (by omega) (by decide) ?_
            refine V_if_le dX12_oldest_50 (fun hc50 => ?_) (fun hc50 => ?_)
            · refine V_ii6 dX12_oldest_80 (by decide) (noL_i _) ?_
              refine V_goto dX12_oldest_83 ?_
              exact V.sub (lsS (lsS (lsS (lsS (lsS (lsS (lsE (by rw [nI_1]) ls0))))))) (ih (i + 1) _ (by omega) (fun b hb => by have := ho b hb; omega) (by rw [itr, oldF_f (fun h => by have h1 := h.2.2.2.1; rw [i_lt] at h1; rw [i_le] at hc50; omega)] at q; exact q))
            · refine V_iload dX12_oldest_53 rfl ?_
              refine V_const dX12_oldest_55 ?_
              refine V_icmp_eq dX12_oldest_56 (fun hc56 => ?_) (fun hc56 => ?_)
              · rw [oI_none (fun b hb => by have := ho b hb; omega)] at hc56
                refine V_iload dX12_oldest_76 rfl ?_
                refine V_is5 dX12_oldest_78 (by decide) (noL_r _) ?_
                refine V_ii6 dX12_oldest_80 (by decide) (noL_i _) ?_
                refine V_goto dX12_oldest_83 ?_
                exact V.sub (lsS (lsS (lsS (lsS (lsS (lsE rfl (lsE (by rw [nI_1]) ls0))))))) (ih (i + 1) (some i) (by omega) (fun b hb => by cases hb; omega) (by rw [itr, oldF_t ⟨hc23, hc34, hc43, by rw [i_le] at hc50; rw [i_lt]; omega, fun b hb => by rw [hc56] at hb; cases hb⟩] at q; exact q))
              · rw [oI_none (fun b hb => by have := ho b hb; omega)] at hc56
                cases o with
                | none => exact absurd rfl hc56
                | some b =>
                have hb := ho b rfl
                refine V_aload dX12_oldest_59 rfl ?_
                refine V_getRs fk_X12_31 dX12_oldest_60 hM.1 hM.a1212.1 ?_
                refine V_iload dX12_oldest_63 rfl ?_
                refine V_iald dX12_oldest_65 hM.a1212.2 rfl (by omega) (by decide) ?_
                refine V_aload dX12_oldest_66 rfl ?_
                refine V_getRs fk_X12_31 dX12_oldest_67 hM.1 hM.a1212.1 ?_
                refine V_iload dX12_oldest_70 rfl ?_
                refine V_iald dX12_oldest_72 hM.a1212.2 (i := b) rfl (by omega) (by decide) ?_
                refine V_icmp_ge dX12_oldest_73 (fun hc73 => ?_) (fun hc73 => ?_)
                · refine V_ii6 dX12_oldest_80 (by decide) (noL_i _) ?_
                  refine V_goto dX12_oldest_83 ?_
                  exact V.sub (lsS (lsS (lsS (lsS (lsS (lsS (lsE (by rw [nI_1]) ls0))))))) (ih (i + 1) _ (by omega) (fun b hb => by have := ho b hb; omega) (by rw [itr, oldF_f (fun h => by have h1 := h.2.2.2.2 b rfl; rw [i_lt] at h1; rw [i_le] at hc73; omega)] at q; exact q))
                · refine V_iload dX12_oldest_76 rfl ?_
                  refine V_is5 dX12_oldest_78 (by decide) (noL_r _) ?_
                  refine V_ii6 dX12_oldest_80 (by decide) (noL_i _) ?_
                  refine V_goto dX12_oldest_83 ?_
                  exact V.sub (lsS (lsS (lsS (lsS (lsS (lsE rfl (lsE (by rw [nI_1]) ls0))))))) (ih (i + 1) (some i) (by omega) (fun b hb => by cases hb; omega) (by rw [itr, oldF_t ⟨hc23, hc34, hc43, by rw [i_le] at hc50; rw [i_lt]; omega, fun b2 hb2 => by cases hb2; rw [i_le] at hc73; rw [i_lt]; omega⟩] at q; exact q))
theorem sem_X12_oldest {l : Launch} {D : va_G} {A : Nat → Prop} {z : Nat} {t : TT} {I : MI} {R : MR} {J : MI} {B : MR} {m N ao ac : Nat} {p k : Int32} {Φ : PP} (hM : MSt m t R) (hN : I 1201 m = nI N) (hN2 : N ≤ 300) (hof : t ao = (20, 300)) (hcm : t ac = (20, 300)) (q : Φ (some (.int (oI (itr (oldF J m p k (J ao) (J ac)) 0 N none)))) z t I R J B) : Sem l D A 0 0 0 mX12_oldest [va_rf (some m), .int p, .int k, va_rf (some ao), va_rf (some ac)] z t I R J B Φ := by
  refine Sem.run [some (va_rf (some m)), some (.int p), some (.int k), some (va_rf (some ao)), some (va_rf (some ac)), none, none] (by decide) rfl (ent_r (ent_i (ent_i (ent_r (ent_r (ent_none (ent_none ent_nil))))))) ?_
  refine V_const dX12_oldest_0 ?_
  refine V_is5 dX12_oldest_1 (by decide) (noL_r _) ?_
  refine V_const dX12_oldest_3 ?_
  refine V_is6 dX12_oldest_4 (by decide) (noL_i _) ?_
  exact lp_X12_oldest hM hN hN2 hof hcm N 0 none (by omega) (fun b hb => by cases hb) q
