-- LASTS, in the class
def bt1 (x p : Nat) (k : Nat) (I : MI) : MI := up2 I 900 (xSo x (4 * p + k) + 2) (I 900 (xSo x (4 * p + k) + 1))
def bt2 (si : Nat → Nat) (p : Nat) (I : MI) (a : Nat) : MI := up2 I 312 a (if nI (si a / 4) = nI p then I 306 a else 0)
theorem lp_bt1 {l : Launch} {D : va_G} {A : Nat → Prop} {z : Nat} {t : TT} {R : MR} {J : MI} {B : MR} {x p : Nat} {I0 : MI}  {Φ : PP} (hX : XSt x t I0 R B) (hp : p < 8) : ∀ (n i : Nat) (I : MI), i + n = 4 → V l D A (rmm 2 0 0) mX11_beginTrial (KS D A 0 0 Φ) 0 0 z t (itr (bt1 x p) i n I) R J B 38 [some (va_rf (some x)), some (.int (nI p)), none, none] [] → V l D A (rmm 2 0 0) mX11_beginTrial (KS D A 0 0 Φ) 0 0 z t I R J B 2 [some (va_rf (some x)), some (.int (nI p)), some (.int (nI i)), none] [] := by
  intro n
  induction n with
  | zero =>
    intro i I hin kk
    have hi : i = 4 := by omega
    subst hi
    refine V_iload dX11_beginTrial_2 rfl ?_
    refine V_const dX11_beginTrial_3 ?_
    refine V_icmp_ge dX11_beginTrial_4 (fun hc4 => ?_) (fun hc4 => ?_)
    · exact V.sub (lsS (lsS (lsN (lsN ls0)))) kk
    · exact absurd (show (4 : Int32) ≤ nI 4 from Int32.le_refl _) hc4
  | succ n ih =>
    intro i I hin kk
    refine V_iload dX11_beginTrial_2 rfl ?_
    refine V_const dX11_beginTrial_3 ?_
    refine V_icmp_ge dX11_beginTrial_4 (fun hc4 => ?_) (fun hc4 => ?_)
    · exact absurd hc4 (show ¬ nI 4 ≤ nI i from nI_ge (by omega) (by decide))
    · refine V_aload dX11_beginTrial_7 rfl ?_
      refine V_iload dX11_beginTrial_8 rfl ?_
      refine V_iload dX11_beginTrial_9 rfl ?_
      refine V_invV (As := [_, _]) mv_X11_storeOf lk_X11_110 dX11_beginTrial_10 (c := 11) (by decide) rfl rfl hX.hx rfl rfl (Nat.le_of_ble_eq_true rfl) ⟨⟨by decide, by decide⟩, by decide, by decide⟩ (sem_X11_storeOf hX.hx hX.so.1 hX.so.2.1 (fun ho => ?_) (fun i2 j2 hi2 hj2 hvi hvj => ?_))
      · exact absurd ⟨nI_pos' (by omega), show nI p ≤ nI 7 from nI_le (by omega) (by decide), nI_pos' (by omega), show nI i ≤ nI 3 from nI_le (by omega) (by decide)⟩ ho -- done
      · obtain rfl : i2 = p := ((nI_eq (by omega) (by omega)).mp hvi).symm
        obtain rfl : j2 = i := ((nI_eq (by omega) (by omega)).mp hvj).symm
        rw [(hX.so.2.2 (4 * i2 + j2) (by omega)).1]
        refine V_as3 dX11_beginTrial_13 (by decide) (noL_i _) ?_
        refine V_aload dX11_beginTrial_14 rfl ?_
        refine V_ifnull dX11_beginTrial_15 (fun hn15 => ?_) (fun a15 hs15 => ?_)
        · exact absurd hn15 (by simp)
        · cases hs15
          refine V_aload dX11_beginTrial_18 rfl ?_
          refine V_getRs fk_X11_319 dX11_beginTrial_19 (hX.so.2.2 (4 * i2 + j2) (by omega)).2.1 (hX.so.2.2 (4 * i2 + j2) (by omega)).2.2.2.2.2.2.1 ?_
          refine V_aload dX11_beginTrial_22 rfl ?_
          refine V_getRs fk_X11_198 dX11_beginTrial_23 (hX.so.2.2 (4 * i2 + j2) (by omega)).2.1 (hX.so.2.2 (4 * i2 + j2) (by omega)).2.2.2.2.2.1 ?_
          refine V_getI fk_X11_202 dX11_beginTrial_26 (hX.so.2.2 (4 * i2 + j2) (by omega)).2.2.2.2.2.2.2.1 ?_
          refine V_putI fk_X11_202 (Or.inl rfl) rfl rfl dX11_beginTrial_29 (hX.so.2.2 (4 * i2 + j2) (by omega)).2.2.2.2.2.2.2.2 ?_
          refine V_ii2 dX11_beginTrial_32 (by decide) (noL_i _) ?_
          refine V_goto dX11_beginTrial_35 ?_
          exact V.sub (lsS (lsS (lsE (by rw [nI_1]) (lsN ls0)))) (ih (j2 + 1) _ (by omega) kk)
theorem lp_bt2 {l : Launch} {D : va_G} {A : Nat → Prop} {z : Nat} {t : TT} {R : MR} {J : MI} {B : MR} {x p : Nat} {I0 : MI} {si : Nat → Nat} {Φ : PP} (hX : XSt x t I0 R B) (hp : p < 8) : ∀ (rest : List Nat) (r : Option Nat) (I : MI) (hok : SiOk x R si rest) (h5 : I 500 = I0 500), Chain t R r rest → Φ none z t (rest.foldl (bt2 si p) I) R J B → V l D A (rmm 2 0 0) mX11_beginTrial (KS D A 0 0 Φ) 0 0 z t I R J B 46 [some (va_rf (some x)), some (.int (nI p)), some (va_rf r), none] [] := by
  intro rest
  induction rest with
  | nil =>
    intro r I hok h5 hch q
    have hr : r = none := hch
    subst hr
    refine V_aload dX11_beginTrial_46 rfl ?_
    refine V_ifnull dX11_beginTrial_47 (fun hn47 => ?_) (fun a47 hs47 => ?_)
    · exact V_vret dX11_beginTrial_84 rfl (by decide) (by decide) q
    · exact absurd hs47 (by simp)
  | cons a as ih =>
    intro r I hok h5 hch q
    obtain ⟨rfl, ha, hch⟩ := hch
    obtain ⟨hsi, hsl⟩ := hok a List.mem_cons_self
    have hk4 : si a % 4 < 4 := Nat.mod_lt _ (by decide)
    have hp8 : si a / 4 < 8 := by omega
    have hok : SiOk x R si as := fun b hb => hok b (List.mem_cons_of_mem _ hb)
    refine V_aload dX11_beginTrial_46 rfl ?_
    refine V_ifnull dX11_beginTrial_47 (fun hn47 => ?_) (fun a47 hs47 => ?_)
    · exact absurd hn47 (by simp)
    · cases hs47
      refine V_aload dX11_beginTrial_50 rfl ?_
      refine V_aload dX11_beginTrial_51 rfl ?_
      refine V_getRs fk_X11_150 dX11_beginTrial_52 (by assumption) hsi ?_
      refine V_getRs fk_X11_154 dX11_beginTrial_55 (hX.so.2.2 _ hsl).2.1 (hX.so.2.2 _ hsl).2.2.2.1 ?_
      refine V_getIs fk_X11_158 dX11_beginTrial_58 (hX.pl.2.2 _ hp8).2.1 ((congrFun h5 _).trans (hX.pl.2.2 _ hp8).2.2) ?_
      refine V_iload dX11_beginTrial_61 rfl ?_
      refine V_icmp_ne dX11_beginTrial_62 (fun hc62 => ?_) (fun hc62 => ?_)
      · refine V_const dX11_beginTrial_72 ?_
        refine V_putI fk_X11_322 (Or.inl rfl) rfl rfl dX11_beginTrial_73 (by assumption) ?_
        refine V_aload dX11_beginTrial_76 rfl ?_
        refine V_getR fk_X11_262 dX11_beginTrial_77 (by assumption) ?_
        refine V_as2 dX11_beginTrial_80 (by decide) (noL_i _) ?_
        refine V_goto dX11_beginTrial_81 ?_
        exact V.sub (lsS (lsS (lsS (lsN ls0)))) (ih _ _ hok ((up2_ne _ _ _ (by decide)).trans h5) hch (by rw [List.foldl_cons] at q; unfold bt2 at q; rw [if_neg hc62] at q; exact q))
      · refine V_aload dX11_beginTrial_65 rfl ?_
        refine V_getI fk_X11_147 dX11_beginTrial_66 (by assumption) ?_
        refine V_goto dX11_beginTrial_69 ?_
        refine V_putI fk_X11_322 (Or.inl rfl) rfl rfl dX11_beginTrial_73 (by assumption) ?_
        refine V_aload dX11_beginTrial_76 rfl ?_
        refine V_getR fk_X11_262 dX11_beginTrial_77 (by assumption) ?_
        refine V_as2 dX11_beginTrial_80 (by decide) (noL_i _) ?_
        refine V_goto dX11_beginTrial_81 ?_
        exact V.sub (lsS (lsS (lsS (lsN ls0)))) (ih _ _ hok ((up2_ne _ _ _ (by decide)).trans h5) hch (by rw [List.foldl_cons] at q; unfold bt2 at q; rw [if_pos hc62] at q; exact q))
theorem bt1_keep {x p f : Nat} (h : f ≠ 900) (k : Nat) (I : MI) : bt1 x p k I f = I f := up2_ne _ _ _ h
theorem bt2_keep {si : Nat → Nat} {p f : Nat} (h : f ≠ 312) (I : MI) (a : Nat) : bt2 si p I a f = I f := up2_ne _ _ _ h
theorem sem_X11_beginTrial {l : Launch} {D : va_G} {A : Nat → Prop} {z : Nat} {t : TT} {I : MI} {R : MR} {J : MI} {B : MR} {x p : Nat} {si : Nat → Nat} {ch : List Nat} {Φ : PP} (hX : XSt x t I R B) (hp : p < 8) (hok : SiOk x R si ch) (hch : Chain t R (R 402 (x + 127)) ch) (q : Φ none z t (ch.foldl (bt2 si p) (itr (bt1 x p) 0 4 I)) R J B) : Sem l D A 2 0 0 mX11_beginTrial [va_rf (some x), .int (nI p)] z t I R J B Φ := by
  refine Sem.run [some (va_rf (some x)), some (.int (nI p)), none, none] (by decide) rfl (ent_r (ent_i (ent_none (ent_none ent_nil)))) ?_
  refine V_const dX11_beginTrial_0 ?_
  refine V_is2 dX11_beginTrial_1 (by decide) (noL_i _) ?_
  refine V.sub (lsS (lsS (lsS (lsN ls0)))) (lp_bt1 hX hp 4 0 I (by omega) ?_)
  refine V_aload dX11_beginTrial_38 rfl ?_
  refine V_getRs fk_X11_47 dX11_beginTrial_39 hX.hx hX.lo.1 ?_
  refine V_getR fk_X11_258 dX11_beginTrial_42 hX.lo.2.1 ?_
  refine V_as2 dX11_beginTrial_45 (by decide) (noL_i _) ?_
  exact V.sub (lsS (lsS (lsS (lsN ls0)))) (lp_bt2 hX hp ch _ _ hok (itr_keep (fun k I => bt1_keep (by decide) k I) _ _ _) hch q)
def ewB (w : Int32) (I : MI) (a : Nat) : Prop := I 307 a = -1 ∨ I 307 a ≤ w
def ewL (x s : Nat) (w : Int32) (J I : MI) (a : Nat) : Int32 := lossS (J (xKd x (s % 4) + 1)) (I 312 a) (w - I 302 a) (bI (¬ (I 307 a = -1 ∨ I 307 a ≤ w)))
def ewN (x s : Nat) (w : Int32) (J I : MI) (a : Nat) : Int32 := opN (I 901 (xSo x s + 2)) (I 312 a - ewL x s w J I a) (I 102 (xKd x (s % 4)))
def ewI (x s : Nat) (w : Int32) (J : MI) (I : MI) (a : Nat) : MI := if I 307 a = -1 ∨ I 307 a ≤ w then
  up2 (up2 (up2 (up2 I 312 a (I 312 a - ewL x s w J I a)) 900 (xSo x s + 2) (opL (I 900 (xSo x s + 2)) (I 901 (xSo x s + 2)) (I 312 a - ewL x s w J I a) (I 102 (xKd x (s % 4))))) 901 (xSo x s + 2) (opW (I 901 (xSo x s + 2)) (I 312 a - ewL x s w J I a) (I 102 (xKd x (s % 4))))) 312 a (I 312 a - ewL x s w J I a - ewN x s w J I a)
  else up2 I 312 a (I 312 a - ewL x s w J I a)
theorem sem_X3_endWeekInTrial {l : Launch} {D : va_G} {A : Nat → Prop} {z : Nat} {t : TT} {I : MI} {R : MR} {J : MI} {B : MR} {x a s : Nat} {w : Int32} {I0 : MI} {Φ : PP} (hX : XSt x t I0 R B) (ha : (t a).1 = 4) (h1 : R 300 a = some (xSo x s)) (hs : s < 32) (q : Φ none z t (ewI x s w J I a) R J B) : Sem l D A 2 0 0 mX3_endWeekInTrial [va_rf (some a), .int w] z t I R J B Φ := by
  refine Sem.run [some (va_rf (some a)), some (.int w), none] (by decide) rfl (ent_r (ent_i (ent_none ent_nil))) ?_
  refine V_aload dX3_endWeekInTrial_0 rfl ?_
  refine V_iload dX3_endWeekInTrial_1 rfl ?_
  refine V_invV (As := [_]) mv_X3_isThereBy lk_X3_55 dX3_endWeekInTrial_2 (c := 3) (by decide) rfl rfl (by assumption) rfl rfl (Nat.le_of_ble_eq_true rfl) ⟨⟨by decide, by decide⟩, by decide, by decide⟩ (sem_X3_isThereBy ha ?_)
  refine V_is2 dX3_endWeekInTrial_5 (by decide) (noL_i _) ?_
  refine V_aload dX3_endWeekInTrial_6 rfl ?_
  refine V_dupr dX3_endWeekInTrial_7 ?_
  refine V_getI fk_X3_59 dX3_endWeekInTrial_8 (by assumption) ?_
  refine V_aload dX3_endWeekInTrial_11 rfl ?_
  refine V_getRs fk_X3_9 dX3_endWeekInTrial_12 (by assumption) h1 ?_
  refine V_getRs fk_X3_37 dX3_endWeekInTrial_15 (hX.so.2.2 _ hs).2.1 (hX.so.2.2 _ hs).2.2.2.2.1 ?_
  refine V_aload dX3_endWeekInTrial_18 rfl ?_
  refine V_getI fk_X3_59 dX3_endWeekInTrial_19 (by assumption) ?_
  refine V_iload dX3_endWeekInTrial_22 rfl ?_
  refine V_aload dX3_endWeekInTrial_23 rfl ?_
  refine V_getI fk_X3_19 dX3_endWeekInTrial_24 (by assumption) ?_
  refine V_isub dX3_endWeekInTrial_27 ?_
  refine V_iload dX3_endWeekInTrial_28 rfl ?_
  refine V_if_ne dX3_endWeekInTrial_29 (fun hc29 => ?_) (fun hc29 => ?_)
  · rw [bI_n0] at hc29
    have hfl : bI (¬ (I 307 a = -1 ∨ I 307 a ≤ w)) = 0 := bI_f (fun h => h hc29)
    refine V_const dX3_endWeekInTrial_36 ?_
    refine V_invV (As := [_, _, _]) mv_X1_loss lk_X3_62 dX3_endWeekInTrial_37 (c := 1) (by decide) rfl rfl (hX.kd.2.2 _ (Nat.mod_lt s (by decide))).2.1 rfl rfl (Nat.le_of_ble_eq_true rfl) ⟨⟨by decide, by decide⟩, by decide, by decide⟩ (sem_X1_loss (hX.kd.2.2 _ (Nat.mod_lt s (by decide))).2.1 (hX.kd.2.2 _ (Nat.mod_lt s (by decide))).2.2.2.1 (hX.kd.2.2 _ (Nat.mod_lt s (by decide))).2.2.2.2 ?_)
    refine V_isub dX3_endWeekInTrial_40 ?_
    refine V_putI fk_X3_59 (Or.inl rfl) rfl rfl dX3_endWeekInTrial_41 (by assumption) ?_
    refine V_iload dX3_endWeekInTrial_44 rfl ?_
    refine V_if_eq dX3_endWeekInTrial_45 (fun hc45 => ?_) (fun hc45 => ?_)
    · rw [bI_0] at hc45; exact absurd hc29 hc45
    · refine V_aload dX3_endWeekInTrial_48 rfl ?_
      refine V_dupr dX3_endWeekInTrial_49 ?_
      refine V_getIs fk_X3_59 dX3_endWeekInTrial_50 (by assumption) up2s ?_
      refine V_aload dX3_endWeekInTrial_53 rfl ?_
      refine V_getRs fk_X3_9 dX3_endWeekInTrial_54 (by assumption) h1 ?_
      refine V_getRs fk_X3_66 dX3_endWeekInTrial_57 (hX.so.2.2 _ hs).2.1 (hX.so.2.2 _ hs).2.2.2.2.2.2.1 ?_
      refine V_aload dX3_endWeekInTrial_60 rfl ?_
      refine V_getIs fk_X3_59 dX3_endWeekInTrial_61 (by assumption) up2s ?_
      refine V_aload dX3_endWeekInTrial_64 rfl ?_
      refine V_getRs fk_X3_9 dX3_endWeekInTrial_65 (by assumption) h1 ?_
      refine V_getRs fk_X3_37 dX3_endWeekInTrial_68 (hX.so.2.2 _ hs).2.1 (hX.so.2.2 _ hs).2.2.2.2.1 ?_
      refine V_getIs fk_X3_70 dX3_endWeekInTrial_71 (hX.kd.2.2 _ (Nat.mod_lt s (by decide))).2.1 (up2n (by decide)) ?_
      refine V_invV (As := [_, _]) mv_X9_openFrom lk_X3_73 dX3_endWeekInTrial_74 (c := 9) (by decide) rfl rfl (hX.so.2.2 _ hs).2.2.2.2.2.2.2.2 rfl rfl (Nat.le_of_ble_eq_true rfl) ⟨⟨by decide, by decide⟩, by decide, by decide⟩ (sem_X9_openFrom (hX.so.2.2 _ hs).2.2.2.2.2.2.2.2 ?_)
      refine V_isub dX3_endWeekInTrial_77 ?_
      refine V_putI fk_X3_59 (Or.inl rfl) rfl rfl dX3_endWeekInTrial_78 (by assumption) ?_
      exact V_vret dX3_endWeekInTrial_81 rfl (by decide) (by decide) (by unfold ewI ewN ewL at q; rw [if_pos hc29, hfl] at q; rw [up2n (by decide), up2n (by decide)]; exact q)
  · rw [bI_0] at hc29
    have hfl : bI (¬ (I 307 a = -1 ∨ I 307 a ≤ w)) = 1 := bI_t hc29
    refine V_const dX3_endWeekInTrial_32 ?_
    refine V_goto dX3_endWeekInTrial_33 ?_
    refine V_invV (As := [_, _, _]) mv_X1_loss lk_X3_62 dX3_endWeekInTrial_37 (c := 1) (by decide) rfl rfl (hX.kd.2.2 _ (Nat.mod_lt s (by decide))).2.1 rfl rfl (Nat.le_of_ble_eq_true rfl) ⟨⟨by decide, by decide⟩, by decide, by decide⟩ (sem_X1_loss (hX.kd.2.2 _ (Nat.mod_lt s (by decide))).2.1 (hX.kd.2.2 _ (Nat.mod_lt s (by decide))).2.2.2.1 (hX.kd.2.2 _ (Nat.mod_lt s (by decide))).2.2.2.2 ?_)
    refine V_isub dX3_endWeekInTrial_40 ?_
    refine V_putI fk_X3_59 (Or.inl rfl) rfl rfl dX3_endWeekInTrial_41 (by assumption) ?_
    refine V_iload dX3_endWeekInTrial_44 rfl ?_
    refine V_if_eq dX3_endWeekInTrial_45 (fun hc45 => ?_) (fun hc45 => ?_)
    · exact V_vret dX3_endWeekInTrial_81 rfl (by decide) (by decide) (by unfold ewI ewN ewL at q; rw [if_neg hc29, hfl] at q; exact q)
    · rw [bI_n0] at hc45; exact absurd hc45 hc29
def is1 (x p : Nat) (k : Nat) (I : MI) : MI := up2 (up2 I 900 (xSo x (4 * p + k) + 2) (I 900 (xSo x (4 * p + k) + 2) - jmin (I 900 (xSo x (4 * p + k) + 2)) (7 * I 501 (xPl x p)))) 901 (xSo x (4 * p + k) + 2) (7 * I 501 (xPl x p) - jmin (I 900 (xSo x (4 * p + k) + 2)) (7 * I 501 (xPl x p)))
def is2 (x : Nat) (si : Nat → Nat) (w : Int32) (J I : MI) (a : Nat) : MI := if I 312 a ≤ 0 then I else ewI x (si a) w J I a
def isI (x p : Nat) (si : Nat → Nat) (w : Int32) (ch : List Nat) (J I : MI) : MI := ch.foldl (is2 x si w J) (itr (is1 x p) 0 4 I)
def isB (x p : Nat) (I : MI) : Prop := ∃ k, k < 4 ∧ ¬ I 901 (xSo x (4 * p + k) + 2) ≤ 0
theorem lp_is1 {l : Launch} {D : va_G} {A : Nat → Prop} {z : Nat} {t : TT} {R : MR} {J : MI} {B : MR} {x p : Nat} {I0 : MI} {w : Int32} {Φ : PP} (hX : XSt x t I0 R B) (hp : p < 8) : ∀ (n i : Nat) (I : MI), i + n = 4 → V l D A (rmm 3 0 0) mX11_isShortInTrial (KS D A 0 0 Φ) 0 0 z t (itr (is1 x p) i n I) R J B 42 [some (va_rf (some x)), some (.int (nI p)), some (.int w), none, none] [] → V l D A (rmm 3 0 0) mX11_isShortInTrial (KS D A 0 0 Φ) 0 0 z t I R J B 2 [some (va_rf (some x)), some (.int (nI p)), some (.int w), some (.int (nI i)), none] [] := by
  intro n
  induction n with
  | zero =>
    intro i I hin kk
    have hi : i = 4 := by omega
    subst hi
    refine V_iload dX11_isShortInTrial_2 rfl ?_
    refine V_const dX11_isShortInTrial_3 ?_
    refine V_icmp_ge dX11_isShortInTrial_4 (fun hc4 => ?_) (fun hc4 => ?_)
    · exact V.sub (lsS (lsS (lsS (lsN (lsN ls0))))) kk
    · exact absurd (show (4 : Int32) ≤ nI 4 from Int32.le_refl _) hc4
  | succ n ih =>
    intro i I hin kk
    refine V_iload dX11_isShortInTrial_2 rfl ?_
    refine V_const dX11_isShortInTrial_3 ?_
    refine V_icmp_ge dX11_isShortInTrial_4 (fun hc4 => ?_) (fun hc4 => ?_)
    · exact absurd hc4 (show ¬ nI 4 ≤ nI i from nI_ge (by omega) (by decide))
    · refine V_aload dX11_isShortInTrial_7 rfl ?_
      refine V_iload dX11_isShortInTrial_8 rfl ?_
      refine V_iload dX11_isShortInTrial_9 rfl ?_
      refine V_invV (As := [_, _]) mv_X11_storeOf lk_X11_110 dX11_isShortInTrial_10 (c := 11) (by decide) rfl rfl hX.hx rfl rfl (Nat.le_of_ble_eq_true rfl) ⟨⟨by decide, by decide⟩, by decide, by decide⟩ (sem_X11_storeOf hX.hx hX.so.1 hX.so.2.1 (fun ho => ?_) (fun i2 j2 hi2 hj2 hvi hvj => ?_))
      · exact absurd ⟨nI_pos' (by omega), show nI p ≤ nI 7 from nI_le (by omega) (by decide), nI_pos' (by omega), show nI i ≤ nI 3 from nI_le (by omega) (by decide)⟩ ho -- done
      · obtain rfl : i2 = p := ((nI_eq (by omega) (by omega)).mp hvi).symm
        obtain rfl : j2 = i := ((nI_eq (by omega) (by omega)).mp hvj).symm
        rw [(hX.so.2.2 (4 * i2 + j2) (by omega)).1]
        refine V_as4 dX11_isShortInTrial_13 (by decide) (noL_i _) ?_
        refine V_aload dX11_isShortInTrial_15 rfl ?_
        refine V_ifnull dX11_isShortInTrial_17 (fun hn17 => ?_) (fun a17 hs17 => ?_)
        · exact absurd hn17 (by simp)
        · cases hs17
          refine V_aload dX11_isShortInTrial_20 rfl ?_
          refine V_getRs fk_X11_319 dX11_isShortInTrial_22 (hX.so.2.2 (4 * i2 + j2) (by omega)).2.1 (hX.so.2.2 (4 * i2 + j2) (by omega)).2.2.2.2.2.2.1 ?_
          refine V_aload dX11_isShortInTrial_25 rfl ?_
          refine V_getRs fk_X11_154 dX11_isShortInTrial_27 (hX.so.2.2 (4 * i2 + j2) (by omega)).2.1 ((hX.so.2.2 (4 * i2 + j2) (by omega)).2.2.2.1.trans (by rw [show (4 * i2 + j2) / 4 = i2 by omega])) ?_
          refine V_invV (As := []) mv_X5_wants lk_X11_304 dX11_isShortInTrial_30 (c := 5) (by decide) rfl rfl (hX.pl.2.2 i2 hi2).2.1 rfl rfl (Nat.le_of_ble_eq_true rfl) ⟨⟨by decide, by decide⟩, by decide, by decide⟩ (sem_X5_wants (hX.pl.2.2 i2 hi2).2.1 ?_)
          refine V_invV (As := [_]) mv_X9_sitDown lk_X11_307 dX11_isShortInTrial_33 (c := 9) (by decide) rfl rfl (hX.so.2.2 (4 * i2 + j2) (by omega)).2.2.2.2.2.2.2.2 rfl rfl (Nat.le_of_ble_eq_true rfl) ⟨⟨by decide, by decide⟩, by decide, by decide⟩ (sem_X9_sitDown (hX.so.2.2 (4 * i2 + j2) (by omega)).2.2.2.2.2.2.2.2 ?_)
          refine V_ii3 dX11_isShortInTrial_36 (by decide) (noL_i _) ?_
          refine V_goto dX11_isShortInTrial_39 ?_
          exact V.sub (lsS (lsS (lsS (lsE (by rw [nI_1]) (lsN ls0))))) (ih (j2 + 1) _ (by omega) kk)
theorem lp_is2 {l : Launch} {D : va_G} {A : Nat → Prop} {z : Nat} {t : TT} {R : MR} {J : MI} {B : MR} {x p : Nat} {I0 : MI} {si : Nat → Nat} {w : Int32} {Φ : PP} (hX : XSt x t I0 R B) (hp : p < 8) : ∀ (rest : List Nat) (r : Option Nat) (I : MI) (hok : SiOk x R si rest), Chain t R r rest → V l D A (rmm 3 0 0) mX11_isShortInTrial (KS D A 0 0 Φ) 0 0 z t (rest.foldl (is2 x si w J) I) R J B 74 [some (va_rf (some x)), some (.int (nI p)), some (.int w), none, none] [] → V l D A (rmm 3 0 0) mX11_isShortInTrial (KS D A 0 0 Φ) 0 0 z t I R J B 50 [some (va_rf (some x)), some (.int (nI p)), some (.int w), some (va_rf r), none] [] := by
  intro rest
  induction rest with
  | nil =>
    intro r I hok hch q
    have hr : r = none := hch
    subst hr
    refine V_aload dX11_isShortInTrial_50 rfl ?_
    refine V_ifnull dX11_isShortInTrial_51 (fun hn51 => ?_) (fun a51 hs51 => ?_)
    · exact V.sub (lsS (lsS (lsS (lsN (lsN ls0))))) q
    · exact absurd hs51 (by simp)
  | cons a as ih =>
    intro r I hok hch q
    obtain ⟨rfl, ha, hch⟩ := hch
    obtain ⟨hsi, hsl⟩ := hok a List.mem_cons_self
    have hk4 : si a % 4 < 4 := Nat.mod_lt _ (by decide)
    have hp8 : si a / 4 < 8 := by omega
    have hok : SiOk x R si as := fun b hb => hok b (List.mem_cons_of_mem _ hb)
    refine V_aload dX11_isShortInTrial_50 rfl ?_
    refine V_ifnull dX11_isShortInTrial_51 (fun hn51 => ?_) (fun a51 hs51 => ?_)
    · exact absurd hn51 (by simp)
    · cases hs51
      refine V_aload dX11_isShortInTrial_54 rfl ?_
      refine V_getI fk_X11_322 dX11_isShortInTrial_55 (by assumption) ?_
      refine V_if_le dX11_isShortInTrial_58 (fun hc58 => ?_) (fun hc58 => ?_)
      · refine V_aload dX11_isShortInTrial_66 rfl ?_
        refine V_getR fk_X11_262 dX11_isShortInTrial_67 (by assumption) ?_
        refine V_as3 dX11_isShortInTrial_70 (by decide) (noL_i _) ?_
        refine V_goto dX11_isShortInTrial_71 ?_
        exact V.sub (lsS (lsS (lsS (lsS (lsN ls0))))) (ih _ _ hok hch (by rw [List.foldl_cons, show is2 x si w J I a = I from if_pos hc58] at q; exact q))
      · refine V_aload dX11_isShortInTrial_61 rfl ?_
        refine V_iload dX11_isShortInTrial_62 rfl ?_
        refine V_invV (As := [_]) mv_X3_endWeekInTrial lk_X11_325 dX11_isShortInTrial_63 (c := 3) (by decide) rfl rfl ha rfl rfl (Nat.le_of_ble_eq_true rfl) ⟨⟨by decide, by decide⟩, by decide, by decide⟩ (sem_X3_endWeekInTrial hX ha hsi hsl ?_)
        refine V_aload dX11_isShortInTrial_66 rfl ?_
        refine V_getR fk_X11_262 dX11_isShortInTrial_67 (by assumption) ?_
        refine V_as3 dX11_isShortInTrial_70 (by decide) (noL_i _) ?_
        refine V_goto dX11_isShortInTrial_71 ?_
        exact V.sub (lsS (lsS (lsS (lsS (lsN ls0))))) (ih _ _ hok hch (by rw [List.foldl_cons, show is2 x si w J I a = ewI x (si a) w J I a from if_neg hc58] at q; exact q))
theorem lp_is3 {l : Launch} {D : va_G} {A : Nat → Prop} {z : Nat} {t : TT} {I : MI} {R : MR} {J : MI} {B : MR} {x p : Nat} {I0 : MI} {w : Int32} {Φ : PP} (hX : XSt x t I0 R B) (hp : p < 8) (q1 : isB x p I → Φ (some (.int 1)) z t I R J B) (q0 : ¬ isB x p I → Φ (some (.int 0)) z t I R J B) : ∀ (n i : Nat), i + n = 4 → (∀ k, k < i → I 901 (xSo x (4 * p + k) + 2) ≤ 0) → V l D A (rmm 3 0 0) mX11_isShortInTrial (KS D A 0 0 Φ) 0 0 z t I R J B 76 [some (va_rf (some x)), some (.int (nI p)), some (.int w), some (.int (nI i)), none] [] := by
  intro n
  induction n with
  | zero =>
    intro i hin hno
    have hi : i = 4 := by omega
    subst hi
    refine V_iload dX11_isShortInTrial_76 rfl ?_
    refine V_const dX11_isShortInTrial_77 ?_
    refine V_icmp_ge dX11_isShortInTrial_78 (fun hc78 => ?_) (fun hc78 => ?_)
    · refine V_const dX11_isShortInTrial_113 ?_
      exact V_zret dX11_isShortInTrial_114 rfl (by first | exact Or.inl rfl | exact Or.inr rfl) (by decide) (by decide) (q0 (fun h => by obtain ⟨k, hk, h2⟩ := h; exact h2 (hno k hk)))
    · exact absurd (show (4 : Int32) ≤ nI 4 from Int32.le_refl _) hc78
  | succ n ih =>
    intro i hin hno
    refine V_iload dX11_isShortInTrial_76 rfl ?_
    refine V_const dX11_isShortInTrial_77 ?_
    refine V_icmp_ge dX11_isShortInTrial_78 (fun hc78 => ?_) (fun hc78 => ?_)
    · exact absurd hc78 (show ¬ nI 4 ≤ nI i from nI_ge (by omega) (by decide))
    · refine V_aload dX11_isShortInTrial_81 rfl ?_
      refine V_iload dX11_isShortInTrial_82 rfl ?_
      refine V_iload dX11_isShortInTrial_83 rfl ?_
      refine V_invV (As := [_, _]) mv_X11_storeOf lk_X11_110 dX11_isShortInTrial_84 (c := 11) (by decide) rfl rfl hX.hx rfl rfl (Nat.le_of_ble_eq_true rfl) ⟨⟨by decide, by decide⟩, by decide, by decide⟩ (sem_X11_storeOf hX.hx hX.so.1 hX.so.2.1 (fun ho => ?_) (fun i2 j2 hi2 hj2 hvi hvj => ?_))
      · exact absurd ⟨nI_pos' (by omega), show nI p ≤ nI 7 from nI_le (by omega) (by decide), nI_pos' (by omega), show nI i ≤ nI 3 from nI_le (by omega) (by decide)⟩ ho -- done
      · obtain rfl : i2 = p := ((nI_eq (by omega) (by omega)).mp hvi).symm
        obtain rfl : j2 = i := ((nI_eq (by omega) (by omega)).mp hvj).symm
        rw [(hX.so.2.2 (4 * i2 + j2) (by omega)).1]
        refine V_as4 dX11_isShortInTrial_87 (by decide) (noL_i _) ?_
        refine V_aload dX11_isShortInTrial_89 rfl ?_
        refine V_ifnull dX11_isShortInTrial_91 (fun hn91 => ?_) (fun a91 hs91 => ?_)
        · exact absurd hn91 (by simp)
        · cases hs91
          refine V_aload dX11_isShortInTrial_94 rfl ?_
          refine V_getRs fk_X11_319 dX11_isShortInTrial_96 (hX.so.2.2 (4 * i2 + j2) (by omega)).2.1 (hX.so.2.2 (4 * i2 + j2) (by omega)).2.2.2.2.2.2.1 ?_
          refine V_getI fk_X11_316 dX11_isShortInTrial_99 (hX.so.2.2 (4 * i2 + j2) (by omega)).2.2.2.2.2.2.2.2 ?_
          refine V_if_le dX11_isShortInTrial_102 (fun hc102 => ?_) (fun hc102 => ?_)
          · refine V_ii3 dX11_isShortInTrial_107 (by decide) (noL_i _) ?_
            refine V_goto dX11_isShortInTrial_110 ?_
            exact V.sub (lsS (lsS (lsS (lsE (by rw [nI_1]) (lsN ls0))))) (ih (j2 + 1) (by omega) (fun k hk => by rcases Nat.lt_or_ge k j2 with h | h; exact hno k h; rw [show k = j2 by omega]; exact hc102))
          · refine V_const dX11_isShortInTrial_105 ?_
            exact V_zret dX11_isShortInTrial_106 rfl (by first | exact Or.inl rfl | exact Or.inr rfl) (by decide) (by decide) (q1 ⟨j2, hj2, hc102⟩)
theorem sem_X11_isShortInTrial {l : Launch} {D : va_G} {A : Nat → Prop} {z : Nat} {t : TT} {I : MI} {R : MR} {J : MI} {B : MR} {x p : Nat} {w : Int32} {si : Nat → Nat} {ch : List Nat} {I0 : MI} {Φ : PP} (hX : XSt x t I0 R B) (hp : p < 8) (hok : SiOk x R si ch) (hch : Chain t R (R 402 (x + 127)) ch) (q0 : ¬ isB x p (isI x p si w ch J I) → Φ (some (.int 0)) z t (isI x p si w ch J I) R J B) (q : isB x p (isI x p si w ch J I) → Φ (some (.int 1)) z t (isI x p si w ch J I) R J B) : Sem l D A 3 0 0 mX11_isShortInTrial [va_rf (some x), .int (nI p), .int w] z t I R J B Φ := by
  refine Sem.run [some (va_rf (some x)), some (.int (nI p)), some (.int w), none, none] (by decide) rfl (ent_r (ent_i (ent_i (ent_none (ent_none ent_nil))))) ?_
  refine V_const dX11_isShortInTrial_0 ?_
  refine V_is3 dX11_isShortInTrial_1 (by decide) (noL_i _) ?_
  refine V.sub (lsS (lsS (lsS (lsS (lsN ls0))))) (lp_is1 hX hp 4 0 I (by omega) ?_)
  refine V_aload dX11_isShortInTrial_42 rfl ?_
  refine V_getRs fk_X11_47 dX11_isShortInTrial_43 hX.hx hX.lo.1 ?_
  refine V_getR fk_X11_258 dX11_isShortInTrial_46 hX.lo.2.1 ?_
  refine V_as3 dX11_isShortInTrial_49 (by decide) (noL_i _) ?_
  refine V.sub (lsS (lsS (lsS (lsS (lsN ls0))))) (lp_is2 hX hp ch _ _ hok hch ?_)
  refine V_const dX11_isShortInTrial_74 ?_
  refine V_is3 dX11_isShortInTrial_75 (by decide) (noL_i _) ?_
  exact V.sub (lsS (lsS (lsS (lsS (lsN ls0))))) (lp_is3 hX hp q q0 4 0 (by omega) (fun k hk => absurd hk (Nat.not_lt_zero k)))
/-- how many weeks end without a lack, and the trial's traces -/
noncomputable def laX (x p w : Nat) (si : Nat → Nat) (ch : List Nat) (J : MI) : Nat → Nat → MI → Nat × MI
  | 0, i, I => (i, I)
  | n + 1, i, I => @ite _ (isB x p (isI x p si (nI (w + i)) ch J I)) (Classical.propDecidable _) (i, isI x p si (nI (w + i)) ch J I) (laX x p w si ch J n (i + 1) (isI x p si (nI (w + i)) ch J I))
theorem laX_t {x p w : Nat} {si : Nat → Nat} {ch : List Nat} {J : MI} {n i : Nat} {I : MI} (h : isB x p (isI x p si (nI (w + i)) ch J I)) : laX x p w si ch J (n + 1) i I = (i, isI x p si (nI (w + i)) ch J I) := if_pos h
theorem laX_f {x p w : Nat} {si : Nat → Nat} {ch : List Nat} {J : MI} {n i : Nat} {I : MI} (h : ¬ isB x p (isI x p si (nI (w + i)) ch J I)) : laX x p w si ch J (n + 1) i I = laX x p w si ch J n (i + 1) (isI x p si (nI (w + i)) ch J I) := if_neg h
theorem ewI_keep {x s f : Nat} {w : Int32} {J : MI} (h1 : f ≠ 312) (h2 : f ≠ 900) (h3 : f ≠ 901) (I : MI) (a : Nat) : ewI x s w J I a f = I f := by
  unfold ewI
  split
  · rw [up2_ne _ _ _ h1, up2_ne _ _ _ h3, up2_ne _ _ _ h2, up2_ne _ _ _ h1]
  · rw [up2_ne _ _ _ h1]
theorem isI_keep {x p f : Nat} {si : Nat → Nat} {w : Int32} {ch : List Nat} {J I : MI} (h1 : f ≠ 312) (h2 : f ≠ 900) (h3 : f ≠ 901) : isI x p si w ch J I f = I f := by
  unfold isI
  rw [fold_keep (fun I a => by unfold is2; split; rfl; exact ewI_keep h1 h2 h3 I a), itr_keep (fun k I => by unfold is1; rw [up2_ne _ _ _ h3, up2_ne _ _ _ h2])]
theorem lp_X11_lasts {l : Launch} {D : va_G} {A : Nat → Prop} {z : Nat} {t : TT} {R : MR} {J : MI} {B : MR} {x p w : Nat} {I0 : MI} {si : Nat → Nat} {ch : List Nat} {Φ : PP} (hX : XSt x t I0 R B) (hp : p < 8) (hok : SiOk x R si ch) (hch : Chain t R (R 402 (x + 127)) ch) : ∀ (n i : Nat) (I : MI), I 1111 x = nI w → i + n = 60 → Φ (some (.int (nI (laX x p w si ch J n i I).1))) z t (laX x p w si ch J n i I).2 R J B → V l D A (rmm 4 0 0) mX11_lasts (KS D A 0 0 Φ) 0 0 z t I R J B 17 [some (va_rf (some x)), some (.int (nI p)), some (.int (nI i))] [] := by
  intro n
  induction n with
  | zero =>
    intro i I hw hin q
    have hi : i = 60 := by omega
    subst hi
    refine V_iload dX11_lasts_17 rfl ?_
    refine V_const dX11_lasts_18 ?_
    refine V_icmp_ge dX11_lasts_20 (fun hc20 => ?_) (fun hc20 => ?_)
    · refine V_const dX11_lasts_45 ?_
      exact V_iret dX11_lasts_47 rfl (by decide) (by decide) q
    · exact absurd (show (60 : Int32) ≤ nI 60 from Int32.le_refl _) hc20
  | succ n ih =>
    intro i I hw hin q
    refine V_iload dX11_lasts_17 rfl ?_
    refine V_const dX11_lasts_18 ?_
    refine V_icmp_ge dX11_lasts_20 (fun hc20 => ?_) (fun hc20 => ?_)
    · exact absurd hc20 (show ¬ nI 60 ≤ nI i from nI_ge (by omega) (by decide))
    · refine V_aload dX11_lasts_23 rfl ?_
      refine V_iload dX11_lasts_24 rfl ?_
      refine V_aload dX11_lasts_25 rfl ?_
      refine V_getIs fk_X11_121 dX11_lasts_26 hX.hx hw ?_
      refine V_iload dX11_lasts_29 rfl ?_
      refine V_iadd dX11_lasts_30 ?_
      rw [nI_add]
      refine V_invV (As := [_, _]) mv_X11_isShortInTrial lk_X11_217 dX11_lasts_31 (c := 11) (by decide) rfl rfl hX.hx rfl rfl (Nat.le_of_ble_eq_true rfl) ⟨⟨by decide, by decide⟩, by decide, by decide⟩ (sem_X11_isShortInTrial hX hp hok hch (fun hb => ?_) (fun hb => ?_))
      · refine V_if_eq dX11_lasts_34 (fun hc34 => ?_) (fun hc34 => ?_)
        · refine V_ii2 dX11_lasts_39 (by decide) (noL_i _) ?_
          refine V_goto dX11_lasts_42 ?_
          exact V.sub (lsS (lsS (lsE (by rw [nI_1]) ls0))) (ih (i + 1) _ ((congrFun (isI_keep (by decide) (by decide) (by decide)) x).trans hw) (by omega) (by rw [laX_f hb] at q; exact q))
        · exact absurd rfl hc34
      · refine V_if_eq dX11_lasts_34 (fun hc34 => ?_) (fun hc34 => ?_)
        · exact absurd hc34 (by decide)
        · refine V_iload dX11_lasts_37 rfl ?_
          exact V_iret dX11_lasts_38 rfl (by decide) (by decide) (by rw [laX_t hb] at q; exact q)
theorem sem_X11_lasts {l : Launch} {D : va_G} {A : Nat → Prop} {z : Nat} {t : TT} {I : MI} {R : MR} {J : MI} {B : MR} {x w : Nat} {v : Int32} {si : Nat → Nat} {ch : List Nat} {Φ : PP} (hX : XSt x t I R B) (hw : I 1111 x = nI w) (hok : SiOk x R si ch) (hch : Chain t R (R 402 (x + 127)) ch) (q0 : (∀ i, i < 8 → v ≠ nI i) → Φ (some (.int (-1))) z t I R J B) (q : ∀ p, p < 8 → v = nI p → Φ (some (.int (nI (laX x p w si ch J 60 0 (ch.foldl (bt2 si p) (itr (bt1 x p) 0 4 I))).1))) z t (laX x p w si ch J 60 0 (ch.foldl (bt2 si p) (itr (bt1 x p) 0 4 I))).2 R J B) : Sem l D A 4 0 0 mX11_lasts [va_rf (some x), .int v] z t I R J B Φ := by
  refine Sem.run [some (va_rf (some x)), some (.int v), none] (by decide) rfl (ent_r (ent_i (ent_none ent_nil))) ?_
  refine V_aload dX11_lasts_0 rfl ?_
  refine V_iload dX11_lasts_1 rfl ?_
  refine V_invV (As := [_]) mv_X11_placeOf lk_X11_85 dX11_lasts_2 (c := 11) (by decide) rfl rfl hX.hx rfl rfl (Nat.le_of_ble_eq_true rfl) ⟨⟨by decide, by decide⟩, by decide, by decide⟩ (sem_X11_placeOf hX.hx hX.pl.1 hX.pl.2.1 (fun ho2 => ?_) (fun p hp hvp => ?_))
  · refine V_ifnonnull dX11_lasts_5 (fun a5 hs5 => ?_) (fun hn5 => ?_)
    · exact absurd hs5 (by simp)
    · refine V_const dX11_lasts_8 ?_
      exact V_iret dX11_lasts_9 rfl (by decide) (by decide) (q0 ho2)
  · rw [(hX.pl.2.2 p hp).1]
    subst hvp
    refine V_ifnonnull dX11_lasts_5 (fun a5 hs5 => ?_) (fun hn5 => ?_)
    · cases hs5
      refine V_aload dX11_lasts_10 rfl ?_
      refine V_iload dX11_lasts_11 rfl ?_
      refine V_invV (As := [_]) mv_X11_beginTrial lk_X11_214 dX11_lasts_12 (c := 11) (by decide) rfl rfl hX.hx rfl rfl (Nat.le_of_ble_eq_true rfl) ⟨⟨by decide, by decide⟩, by decide, by decide⟩ (sem_X11_beginTrial hX hp hok hch ?_)
      refine V_const dX11_lasts_15 ?_
      refine V_is2 dX11_lasts_16 (by decide) (noL_i _) ?_
      exact V.sub (lsS (lsS (lsS ls0))) (lp_X11_lasts hX hp hok hch 60 0 _ (by rw [fold_keep (fun I a => bt2_keep (by decide) I a), itr_keep (fun k I => bt1_keep (by decide) k I)]; exact hw) (by omega) (q p hp rfl))
    · exact absurd hn5 (by simp)
