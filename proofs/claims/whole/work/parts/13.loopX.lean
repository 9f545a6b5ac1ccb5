-- LOOPS of the class over the chain of lots
/-- the lots from r on, by their links -/
def Chain (t : TT) (R : MR) : Option Nat → List Nat → Prop
  | r, [] => r = none
  | r, a :: as => r = some a ∧ (t a).1 = 4 ∧ Chain t R (R 313 a) as
/-- f for i, i + 1, .., n times -/
def itr {α : Type} (f : Nat → α → α) : Nat → Nat → α → α
  | _, 0, s => s
  | i, n + 1, s => itr f (i + 1) n (f i s)
def stAt (I : MI) (R : MR) (st : Nat) (s : Int32) (a : Nat) : Int32 := if R 300 a = some st ∧ I 307 a = -1 then s + I 306 a else s
theorem lp_X4_casksAt {l : Launch} {D : va_G} {A : Nat → Prop} {z : Nat} {t : TT} {I : MI} {R : MR} {J : MI} {B : MR} {o st : Nat} {Φ : PP}  : ∀ (rest : List Nat) (r : Option Nat) (s : Int32), Chain t R r rest → Φ (some (.int (rest.foldl (stAt I R st) s))) z t I R J B → V l D A (rmm 1 0 0) mX4_casksAt (KS D A 0 0 Φ) 0 0 z t I R J B 7 [some (va_rf (some o)), some (va_rf (some st)), some (.int s), some (va_rf r)] [] := by
  intro rest
  induction rest with
  | nil =>
    intro r s hch q
    have hr : r = none := hch
    subst hr
    refine V_aload dX4_casksAt_7 rfl ?_
    refine V_ifnull dX4_casksAt_8 (fun hn8 => ?_) (fun a8 hs8 => ?_)
    · refine V_iload dX4_casksAt_41 rfl ?_
      exact V_iret dX4_casksAt_42 rfl (by decide) (by decide) q
    · exact absurd hs8 (by simp)
  | cons a as ih =>
    intro r s hch q
    obtain ⟨rfl, ha, hch⟩ := hch
    refine V_aload dX4_casksAt_7 rfl ?_
    refine V_ifnull dX4_casksAt_8 (fun hn8 => ?_) (fun a8 hs8 => ?_)
    · exact absurd hn8 (by simp)
    · cases hs8
      refine V_aload dX4_casksAt_11 rfl ?_
      refine V_getR fk_X4_43 dX4_casksAt_12 (by assumption) ?_
      refine V_aload dX4_casksAt_15 rfl ?_
      refine V_acmp_ne dX4_casksAt_16 (fun hc16 => ?_) (fun hc16 => ?_)
      · refine V_aload dX4_casksAt_33 rfl ?_
        refine V_getR fk_X4_37 dX4_casksAt_34 (by assumption) ?_
        refine V_as3 dX4_casksAt_37 (by decide) (noL_i _) ?_
        refine V_goto dX4_casksAt_38 ?_
        exact V.sub (lsS (lsS (lsS (lsS ls0)))) (ih _ _ hch (by rw [List.foldl_cons, show stAt I R st s a = s from if_neg (fun h => hc16 h.1)] at q; exact q))
      · refine V_aload dX4_casksAt_19 rfl ?_
        refine V_invV (As := []) mv_X3_isThere lk_X4_47 dX4_casksAt_20 (c := 3) (by decide) rfl rfl (by assumption) rfl rfl (Nat.le_of_ble_eq_true rfl) ⟨⟨by decide, by decide⟩, by decide, by decide⟩ (sem_X3_isThere ha ?_)
        refine V_if_eq dX4_casksAt_23 (fun hc23 => ?_) (fun hc23 => ?_)
        · rw [bI_0] at hc23
          refine V_aload dX4_casksAt_33 rfl ?_
          refine V_getR fk_X4_37 dX4_casksAt_34 (by assumption) ?_
          refine V_as3 dX4_casksAt_37 (by decide) (noL_i _) ?_
          refine V_goto dX4_casksAt_38 ?_
          exact V.sub (lsS (lsS (lsS (lsS ls0)))) (ih _ _ hch (by rw [List.foldl_cons, show stAt I R st s a = s from if_neg (fun h => hc23 h.2)] at q; exact q))
        · rw [bI_n0] at hc23
          refine V_iload dX4_casksAt_26 rfl ?_
          refine V_aload dX4_casksAt_27 rfl ?_
          refine V_getI fk_X4_50 dX4_casksAt_28 (by assumption) ?_
          refine V_iadd dX4_casksAt_31 ?_
          refine V_is2 dX4_casksAt_32 (by decide) (noL_r _) ?_
          refine V_aload dX4_casksAt_33 rfl ?_
          refine V_getR fk_X4_37 dX4_casksAt_34 (by assumption) ?_
          refine V_as3 dX4_casksAt_37 (by decide) (noL_i _) ?_
          refine V_goto dX4_casksAt_38 ?_
          exact V.sub (lsS (lsS (lsS (lsS ls0)))) (ih _ _ hch (by rw [List.foldl_cons, show stAt I R st s a = s + I 306 a from if_pos ⟨hc16, hc23⟩] at q; exact q))
theorem sem_X4_casksAt {l : Launch} {D : va_G} {A : Nat → Prop} {z : Nat} {t : TT} {I : MI} {R : MR} {J : MI} {B : MR} {o st : Nat} {ch : List Nat} {Φ : PP} (ho : (t o).1 = 5) (hch : Chain t R (R 402 o) ch) (q : Φ (some (.int (ch.foldl (stAt I R st) 0))) z t I R J B) : Sem l D A 1 0 0 mX4_casksAt [va_rf (some o), va_rf (some st)] z t I R J B Φ := by
  refine Sem.run [some (va_rf (some o)), some (va_rf (some st)), none, none] (by decide) rfl (ent_r (ent_r (ent_none (ent_none ent_nil)))) ?_
  refine V_const dX4_casksAt_0 ?_
  refine V_is2 dX4_casksAt_1 (by decide) (noL_r _) ?_
  refine V_aload dX4_casksAt_2 rfl ?_
  refine V_getR fk_X4_33 dX4_casksAt_3 (by assumption) ?_
  refine V_as3 dX4_casksAt_6 (by decide) (noL_i _) ?_
  exact lp_X4_casksAt _ _ _ hch q
def stAll (I : MI) (s : Int32) (a : Nat) : Int32 := s + I 306 a
theorem lp_X4_casksInAll {l : Launch} {D : va_G} {A : Nat → Prop} {z : Nat} {t : TT} {I : MI} {R : MR} {J : MI} {B : MR} {o : Nat} {Φ : PP}  : ∀ (rest : List Nat) (r : Option Nat) (s : Int32), Chain t R r rest → Φ (some (.int (rest.foldl (stAll I) s))) z t I R J B → V l D A (rmm 0 0 0) mX4_casksInAll (KS D A 0 0 Φ) 0 0 z t I R J B 7 [some (va_rf (some o)), some (.int s), some (va_rf r)] [] := by
  intro rest
  induction rest with
  | nil =>
    intro r s hch q
    have hr : r = none := hch
    subst hr
    refine V_aload dX4_casksInAll_7 rfl ?_
    refine V_ifnull dX4_casksInAll_8 (fun hn8 => ?_) (fun a8 hs8 => ?_)
    · refine V_iload dX4_casksInAll_26 rfl ?_
      exact V_iret dX4_casksInAll_27 rfl (by decide) (by decide) q
    · exact absurd hs8 (by simp)
  | cons a as ih =>
    intro r s hch q
    obtain ⟨rfl, ha, hch⟩ := hch
    refine V_aload dX4_casksInAll_7 rfl ?_
    refine V_ifnull dX4_casksInAll_8 (fun hn8 => ?_) (fun a8 hs8 => ?_)
    · exact absurd hn8 (by simp)
    · cases hs8
      refine V_iload dX4_casksInAll_11 rfl ?_
      refine V_aload dX4_casksInAll_12 rfl ?_
      refine V_getI fk_X4_50 dX4_casksInAll_13 (by assumption) ?_
      refine V_iadd dX4_casksInAll_16 ?_
      refine V_is1 dX4_casksInAll_17 (by decide) (noL_r _) ?_
      refine V_aload dX4_casksInAll_18 rfl ?_
      refine V_getR fk_X4_37 dX4_casksInAll_19 (by assumption) ?_
      refine V_as2 dX4_casksInAll_22 (by decide) (noL_i _) ?_
      refine V_goto dX4_casksInAll_23 ?_
      exact V.sub (lsS (lsS (lsS ls0))) (ih _ _ hch q)
theorem sem_X4_casksInAll {l : Launch} {D : va_G} {A : Nat → Prop} {z : Nat} {t : TT} {I : MI} {R : MR} {J : MI} {B : MR} {o : Nat} {ch : List Nat} {Φ : PP} (ho : (t o).1 = 5) (hch : Chain t R (R 402 o) ch) (q : Φ (some (.int (ch.foldl (stAll I) 0))) z t I R J B) : Sem l D A 0 0 0 mX4_casksInAll [va_rf (some o)] z t I R J B Φ := by
  refine Sem.run [some (va_rf (some o)), none, none] (by decide) rfl (ent_r (ent_none (ent_none ent_nil))) ?_
  refine V_const dX4_casksInAll_0 ?_
  refine V_is1 dX4_casksInAll_1 (by decide) (noL_r _) ?_
  refine V_aload dX4_casksInAll_2 rfl ?_
  refine V_getR fk_X4_33 dX4_casksInAll_3 (by assumption) ?_
  refine V_as2 dX4_casksInAll_6 (by decide) (noL_i _) ?_
  exact lp_X4_casksInAll _ _ _ hch q
def stOw (I : MI) (mk : Int32) (s : Int32) (a : Nat) : Int32 := if I 301 a = mk then s + I 310 a else s
theorem lp_X11_owed {l : Launch} {D : va_G} {A : Nat → Prop} {z : Nat} {t : TT} {I : MI} {R : MR} {J : MI} {B : MR} {o : Nat} {mk : Int32} {Φ : PP}  : ∀ (rest : List Nat) (r : Option Nat) (s : Int32), Chain t R r rest → Φ (some (.int (rest.foldl (stOw I mk) s))) z t I R J B → V l D A (rmm 0 0 0) mX11_owed (KS D A 0 0 Φ) 0 0 z t I R J B 10 [some (va_rf (some o)), some (.int mk), some (.int s), some (va_rf r)] [] := by
  intro rest
  induction rest with
  | nil =>
    intro r s hch q
    have hr : r = none := hch
    subst hr
    refine V_aload dX11_owed_10 rfl ?_
    refine V_ifnull dX11_owed_11 (fun hn11 => ?_) (fun a11 hs11 => ?_)
    · refine V_iload dX11_owed_37 rfl ?_
      exact V_iret dX11_owed_38 rfl (by decide) (by decide) q
    · exact absurd hs11 (by simp)
  | cons a as ih =>
    intro r s hch q
    obtain ⟨rfl, ha, hch⟩ := hch
    refine V_aload dX11_owed_10 rfl ?_
    refine V_ifnull dX11_owed_11 (fun hn11 => ?_) (fun a11 hs11 => ?_)
    · exact absurd hn11 (by simp)
    · cases hs11
      refine V_aload dX11_owed_14 rfl ?_
      refine V_getI fk_X11_166 dX11_owed_15 (by assumption) ?_
      refine V_iload dX11_owed_18 rfl ?_
      refine V_icmp_ne dX11_owed_19 (fun hc19 => ?_) (fun hc19 => ?_)
      · refine V_aload dX11_owed_29 rfl ?_
        refine V_getR fk_X11_262 dX11_owed_30 (by assumption) ?_
        refine V_as3 dX11_owed_33 (by decide) (noL_i _) ?_
        refine V_goto dX11_owed_34 ?_
        exact V.sub (lsS (lsS (lsS (lsS ls0)))) (ih _ _ hch (by rw [List.foldl_cons, show stOw I mk s a = s from if_neg hc19] at q; exact q))
      · refine V_iload dX11_owed_22 rfl ?_
        refine V_aload dX11_owed_23 rfl ?_
        refine V_getI fk_X11_251 dX11_owed_24 (by assumption) ?_
        refine V_iadd dX11_owed_27 ?_
        refine V_is2 dX11_owed_28 (by decide) (noL_i _) ?_
        refine V_aload dX11_owed_29 rfl ?_
        refine V_getR fk_X11_262 dX11_owed_30 (by assumption) ?_
        refine V_as3 dX11_owed_33 (by decide) (noL_i _) ?_
        refine V_goto dX11_owed_34 ?_
        exact V.sub (lsS (lsS (lsS (lsS ls0)))) (ih _ _ hch (by rw [List.foldl_cons, show stOw I mk s a = s + I 310 a from if_pos hc19] at q; exact q))
theorem sem_X11_owed {l : Launch} {D : va_G} {A : Nat → Prop} {z : Nat} {t : TT} {I : MI} {R : MR} {J : MI} {B : MR} {o ol : Nat} {mk : Int32} {ch : List Nat} {Φ : PP} (ho : (t o).1 = 12) (h1 : R 1105 o = some ol) (hol : (t ol).1 = 5) (hch : Chain t R (R 402 ol) ch) (q : Φ (some (.int (ch.foldl (stOw I mk) 0))) z t I R J B) : Sem l D A 0 0 0 mX11_owed [va_rf (some o), .int mk] z t I R J B Φ := by
  refine Sem.run [some (va_rf (some o)), some (.int mk), none, none] (by decide) rfl (ent_r (ent_i (ent_none (ent_none ent_nil)))) ?_
  refine V_const dX11_owed_0 ?_
  refine V_is2 dX11_owed_1 (by decide) (noL_i _) ?_
  refine V_aload dX11_owed_2 rfl ?_
  refine V_getRs fk_X11_47 dX11_owed_3 (by assumption) h1 ?_
  refine V_getR fk_X11_258 dX11_owed_6 (by assumption) ?_
  refine V_as3 dX11_owed_9 (by decide) (noL_i _) ?_
  exact lp_X11_owed _ _ _ hch q
def stBr (w : Int32) (I : MI) (a : Nat) : MI := if I 307 a = -1 ∨ I 307 a ≤ w then up2 I 307 a (-1) else I
theorem lp_X11_bringIn {l : Launch} {D : va_G} {A : Nat → Prop} {z : Nat} {t : TT} {R : MR} {J : MI} {B : MR} {o : Nat} {w : Int32} {Φ : PP} (ho : (t o).1 = 12) : ∀ (rest : List Nat) (r : Option Nat) (I : MI) (hw : I 1111 o = w), Chain t R r rest → Φ none z t (rest.foldl (stBr w) I) R J B → V l D A (rmm 1 0 0) mX11_bringIn (KS D A 0 0 Φ) 0 0 z t I R J B 8 [some (va_rf (some o)), some (va_rf r)] [] := by
  intro rest
  induction rest with
  | nil =>
    intro r I hw hch q
    have hr : r = none := hch
    subst hr
    refine V_aload dX11_bringIn_8 rfl ?_
    refine V_ifnull dX11_bringIn_9 (fun hn9 => ?_) (fun a9 hs9 => ?_)
    · exact V_vret dX11_bringIn_36 rfl (by decide) (by decide) q
    · exact absurd hs9 (by simp)
  | cons a as ih =>
    intro r I hw hch q
    obtain ⟨rfl, ha, hch⟩ := hch
    refine V_aload dX11_bringIn_8 rfl ?_
    refine V_ifnull dX11_bringIn_9 (fun hn9 => ?_) (fun a9 hs9 => ?_)
    · exact absurd hn9 (by simp)
    · cases hs9
      refine V_aload dX11_bringIn_12 rfl ?_
      refine V_aload dX11_bringIn_13 rfl ?_
      refine V_getIs fk_X11_121 dX11_bringIn_14 (by assumption) hw ?_
      refine V_invV (As := [_]) mv_X3_isThereBy lk_X11_293 dX11_bringIn_17 (c := 3) (by decide) rfl rfl (by assumption) rfl rfl (Nat.le_of_ble_eq_true rfl) ⟨⟨by decide, by decide⟩, by decide, by decide⟩ (sem_X3_isThereBy ha ?_)
      refine V_if_eq dX11_bringIn_20 (fun hc20 => ?_) (fun hc20 => ?_)
      · rw [bI_0] at hc20
        refine V_aload dX11_bringIn_28 rfl ?_
        refine V_getR fk_X11_262 dX11_bringIn_29 (by assumption) ?_
        refine V_as1 dX11_bringIn_32 (by decide) (noL_r _) ?_
        refine V_goto dX11_bringIn_33 ?_
        exact V.sub (lsS (lsS ls0)) (ih _ _ hw hch (by rw [List.foldl_cons, show stBr w I a = I from if_neg hc20] at q; exact q))
      · rw [bI_n0] at hc20
        refine V_aload dX11_bringIn_23 rfl ?_
        refine V_const dX11_bringIn_24 ?_
        refine V_putI fk_X11_297 (Or.inl rfl) rfl rfl dX11_bringIn_25 (by assumption) ?_
        refine V_aload dX11_bringIn_28 rfl ?_
        refine V_getR fk_X11_262 dX11_bringIn_29 (by assumption) ?_
        refine V_as1 dX11_bringIn_32 (by decide) (noL_r _) ?_
        refine V_goto dX11_bringIn_33 ?_
        exact V.sub (lsS (lsS ls0)) (ih _ _ (by rw [up2_ne _ _ _ (by decide)]; exact hw) hch (by rw [List.foldl_cons, show stBr w I a = up2 I 307 a (-1) from if_pos hc20] at q; exact q))
theorem sem_X11_bringIn {l : Launch} {D : va_G} {A : Nat → Prop} {z : Nat} {t : TT} {I : MI} {R : MR} {J : MI} {B : MR} {o ol : Nat} {ch : List Nat} {Φ : PP} (ho : (t o).1 = 12) (h1 : R 1105 o = some ol) (hol : (t ol).1 = 5) (hch : Chain t R (R 402 ol) ch) (q : Φ none z t (ch.foldl (stBr (I 1111 o)) I) R J B) : Sem l D A 1 0 0 mX11_bringIn [va_rf (some o)] z t I R J B Φ := by
  refine Sem.run [some (va_rf (some o)), none] (by decide) rfl (ent_r (ent_none ent_nil)) ?_
  refine V_aload dX11_bringIn_0 rfl ?_
  refine V_getRs fk_X11_47 dX11_bringIn_1 (by assumption) h1 ?_
  refine V_getR fk_X11_258 dX11_bringIn_4 (by assumption) ?_
  refine V_as1 dX11_bringIn_7 (by decide) (noL_r _) ?_
  exact lp_X11_bringIn ho _ _ _ rfl hch q
