-- THE CLASS'S WEEK: spoiling, eating, the stocks
theorem up2n {α : Type} {M : Nat → Nat → α} {f g a b : Nat} {v : α} (h : g ≠ f) : up2 M f a v g b = M g b := by rw [up2_ne _ _ _ h]
theorem up2s {α : Type} {M : Nat → Nat → α} {f a : Nat} {v : α} : up2 M f a v f a = v := by rw [up2_self, va_up_self]
theorem up2o {α : Type} {M : Nat → Nat → α} {f g a b : Nat} {v : α} (h : b ≠ a) : up2 M f a v g b = M g b := up2_off _ _ _ _ h
/-- the row of an age -/
def ageN (v : Int32) : Nat := (jmax 0 (jmin 9 v)).toNatClampNeg
theorem age_ok (v : Int32) : jmax 0 (jmin 9 v) = nI (ageN v) ∧ ageN v < 10 := by
  have h1 : (0 : Int32) ≤ jmax 0 (jmin 9 v) := by
    unfold jmax
    split
    · rename_i h; rw [i_lt] at h; rw [i_le]; omega
    · exact Int32.le_refl _
  have h2 : jmax 0 (jmin 9 v) ≤ 9 := by
    unfold jmax jmin
    by_cases h : v < 9
    · rw [if_pos h]
      split
      · rw [i_lt] at h; rw [i_le]; omega
      · decide
    · rw [if_neg h]; decide
  obtain ⟨i, hi, e⟩ := i_rng (N := 10) rfl ⟨h1, h2⟩
  unfold ageN
  rw [e, nI_clamp (by omega)]
  exact ⟨rfl, hi⟩
/-- what is lost of c casks after w weeks, at sea or not, by the rows f -/
def lossS (f : Nat → Int32) (c w s : Int32) : Int32 := c * (if s = 0 then f (ageN (w / 4)) else jmin 1000 (2 * f (ageN (w / 4)))) / 1000
theorem sem_X1_loss {l : Launch} {D : va_G} {A : Nat → Prop} {z : Nat} {t : TT} {I : MI} {R : MR} {J : MI} {B : MR} {o kp : Nat} {c w s : Int32} {Φ : PP} (ho : (t o).1 = 2) (h1 : R 101 o = some kp) (h2 : t kp = (20, 10)) (q : Φ (some (.int (lossS (J kp) c w s))) z t I R J B) : Sem l D A 1 0 0 mX1_loss [va_rf (some o), .int c, .int w, .int s] z t I R J B Φ := by
  refine Sem.run [some (va_rf (some o)), some (.int c), some (.int w), some (.int s), none, none] (by decide) rfl (ent_r (ent_i (ent_i (ent_i (ent_none (ent_none ent_nil)))))) ?_
  refine V_const dX1_loss_0 ?_
  refine V_const dX1_loss_1 ?_
  refine V_iload dX1_loss_3 rfl ?_
  refine V_const dX1_loss_4 ?_
  refine V_idiv dX1_loss_5 (by decide) ?_
  refine V_jmin dX1_loss_6 lk_X1_22 (by decide) (by decide) (by decide) (by decide) (Nat.le_of_ble_eq_true rfl) ?_
  refine V_jmax dX1_loss_9 lk_X1_28 (by decide) (by decide) (by decide) (by decide) (Nat.le_of_ble_eq_true rfl) ?_
  refine V_is4 dX1_loss_12 (by decide) (noL_i _) ?_
  refine V_iload dX1_loss_14 rfl ?_
  refine V_if_eq dX1_loss_15 (fun hc15 => ?_) (fun hc15 => ?_)
  · refine V_aload dX1_loss_36 rfl ?_
    refine V_getRs fk_X1_15 dX1_loss_37 (by assumption) h1 ?_
    refine V_iload dX1_loss_40 rfl ?_
    refine V_iald dX1_loss_42 h2 (age_ok _).1 (age_ok _).2 (by decide) ?_
    refine V_is5 dX1_loss_43 (by decide) (noL_i _) ?_
    refine V_iload dX1_loss_45 rfl ?_
    refine V_iload dX1_loss_46 rfl ?_
    refine V_imul dX1_loss_48 ?_
    refine V_const dX1_loss_49 ?_
    refine V_idiv dX1_loss_52 (by decide) ?_
    exact V_iret dX1_loss_53 rfl (by decide) (by decide) (by unfold lossS at q; rw [if_pos hc15] at q; exact q)
  · refine V_const dX1_loss_18 ?_
    refine V_const dX1_loss_21 ?_
    refine V_aload dX1_loss_22 rfl ?_
    refine V_getRs fk_X1_15 dX1_loss_23 (by assumption) h1 ?_
    refine V_iload dX1_loss_26 rfl ?_
    refine V_iald dX1_loss_28 h2 (age_ok _).1 (age_ok _).2 (by decide) ?_
    refine V_imul dX1_loss_29 ?_
    refine V_jmin dX1_loss_30 lk_X1_22 (by decide) (by decide) (by decide) (by decide) (Nat.le_of_ble_eq_true rfl) ?_
    refine V_goto dX1_loss_33 ?_
    refine V_is5 dX1_loss_43 (by decide) (noL_i _) ?_
    refine V_iload dX1_loss_45 rfl ?_
    refine V_iload dX1_loss_46 rfl ?_
    refine V_imul dX1_loss_48 ?_
    refine V_const dX1_loss_49 ?_
    refine V_idiv dX1_loss_52 (by decide) ?_
    exact V_iret dX1_loss_53 rfl (by decide) (by decide) (by unfold lossS at q; rw [if_neg hc15] at q; exact q)
/-- what is known of the lots of a chain: their stores, the lots that were bought -/
def LotsOk (x n : Nat) (t : TT) (I : MI) (R : MR) (B : MR) (si mi bm : Nat → Nat) (ch : List Nat) : Prop := ∀ a ∈ ch, (R 300 a = some (xSo x (si a)) ∧ si a < 32) ∧ (I 304 a = nI (mi a) ∧ mi a < n) ∧ B (x + 128) (mi a) = some (bm a) ∧ (t (bm a)).1 = 4
def loCo (x : Nat) (si : Nat → Nat) (w : Int32) (J : MI) (I : MI) (a : Nat) : Int32 := lossS (J (xKd x (si a % 4) + 1)) (I 306 a) (w - I 302 a) (bI (¬ I 307 a = -1))
def stCo (x : Nat) (si bm : Nat → Nat) (w : Int32) (J : MI) (I : MI) (a : Nat) : MI := up2 (up2 (up2 I 306 a (I 306 a - loCo x si w J I a)) 1113 x (I 1113 x + loCo x si w J I a)) 311 (bm a) (I 311 (bm a) + loCo x si w J I a)
theorem lp_X11_condemn {l : Launch} {D : va_G} {A : Nat → Prop} {z : Nat} {t : TT} {R : MR} {J : MI} {B : MR} {x n : Nat} {w : Int32} {si mi bm : Nat → Nat} {Φ : PP} (I0 : MI) (hX : XSt x t I0 R B) (hn2 : n ≤ 300) : ∀ (rest : List Nat) (r : Option Nat) (I : MI) (hw : I 1111 x = w) (hn : I 401 (x + 127) = nI n) (hok : LotsOk x n t I R B si mi bm rest), Chain t R r rest → Φ none z t (rest.foldl (stCo x si bm w J) I) R J B → V l D A (rmm 2 0 0) mX11_condemnSpoilt (KS D A 0 0 Φ) 0 0 z t I R J B 8 [some (va_rf (some x)), some (va_rf r), none, none] [] := by
  intro rest
  induction rest with
  | nil =>
    intro r I hw hn hok hch q
    have hr : r = none := hch
    subst hr
    refine V_aload dX11_condemnSpoilt_8 rfl ?_
    refine V_ifnull dX11_condemnSpoilt_9 (fun hn9 => ?_) (fun a9 hs9 => ?_)
    · exact V_vret dX11_condemnSpoilt_102 rfl (by decide) (by decide) q
    · exact absurd hs9 (by simp)
  | cons a as ih =>
    intro r I hw hn hok hch q
    obtain ⟨rfl, ha, hch⟩ := hch
    obtain ⟨⟨hsi, hsl⟩, ⟨hmi, hml⟩, hbm, hbt⟩ := hok a List.mem_cons_self
    have hk4 : si a % 4 < 4 := Nat.mod_lt _ (by decide)
    refine V_aload dX11_condemnSpoilt_8 rfl ?_
    refine V_ifnull dX11_condemnSpoilt_9 (fun hn9 => ?_) (fun a9 hs9 => ?_)
    · exact absurd hn9 (by simp)
    · cases hs9
      refine V_aload dX11_condemnSpoilt_12 rfl ?_
      refine V_getRs fk_X11_150 dX11_condemnSpoilt_13 (by assumption) hsi ?_
      refine V_getRs fk_X11_161 dX11_condemnSpoilt_16 (hX.so.2.2 _ hsl).2.1 (hX.so.2.2 _ hsl).2.2.2.2.1 ?_
      refine V_aload dX11_condemnSpoilt_19 rfl ?_
      refine V_getI fk_X11_147 dX11_condemnSpoilt_20 (by assumption) ?_
      refine V_aload dX11_condemnSpoilt_23 rfl ?_
      refine V_getIs fk_X11_121 dX11_condemnSpoilt_24 hX.hx hw ?_
      refine V_aload dX11_condemnSpoilt_27 rfl ?_
      refine V_getI fk_X11_169 dX11_condemnSpoilt_28 (by assumption) ?_
      refine V_isub dX11_condemnSpoilt_31 ?_
      refine V_aload dX11_condemnSpoilt_32 rfl ?_
      refine V_invV (As := []) mv_X3_isThere lk_X11_144 dX11_condemnSpoilt_33 (c := 3) (by decide) rfl rfl (by assumption) rfl rfl (Nat.le_of_ble_eq_true rfl) ⟨⟨by decide, by decide⟩, by decide, by decide⟩ (sem_X3_isThere ha ?_)
      refine V_if_ne dX11_condemnSpoilt_36 (fun hc36 => ?_) (fun hc36 => ?_)
      · rw [bI_n0] at hc36
        refine V_const dX11_condemnSpoilt_43 ?_
        refine V_invV (As := [_, _, _]) mv_X1_loss lk_X11_300 dX11_condemnSpoilt_44 (c := 1) (by decide) rfl rfl (hX.kd.2.2 _ hk4).2.1 rfl rfl (Nat.le_of_ble_eq_true rfl) ⟨⟨by decide, by decide⟩, by decide, by decide⟩ (sem_X1_loss (hX.kd.2.2 _ hk4).2.1 (hX.kd.2.2 _ hk4).2.2.2.1 (hX.kd.2.2 _ hk4).2.2.2.2 ?_)
        refine V_is2 dX11_condemnSpoilt_47 (by decide) (noL_r _) ?_
        refine V_aload dX11_condemnSpoilt_48 rfl ?_
        refine V_dupr dX11_condemnSpoilt_49 ?_
        refine V_getI fk_X11_147 dX11_condemnSpoilt_50 (by assumption) ?_
        refine V_iload dX11_condemnSpoilt_53 rfl ?_
        refine V_isub dX11_condemnSpoilt_54 ?_
        refine V_putI fk_X11_147 (Or.inl rfl) rfl rfl dX11_condemnSpoilt_55 (by assumption) ?_
        refine V_aload dX11_condemnSpoilt_58 rfl ?_
        refine V_dupr dX11_condemnSpoilt_59 ?_
        refine V_getIs fk_X11_283 dX11_condemnSpoilt_60 hX.hx (up2n (by decide)) ?_
        refine V_iload dX11_condemnSpoilt_63 rfl ?_
        refine V_iadd dX11_condemnSpoilt_64 ?_
        refine V_putI fk_X11_283 (Or.inl rfl) rfl rfl dX11_condemnSpoilt_65 hX.hx ?_
        refine V_aload dX11_condemnSpoilt_68 rfl ?_
        refine V_getRs fk_X11_47 dX11_condemnSpoilt_69 hX.hx hX.lo.1 ?_
        refine V_aload dX11_condemnSpoilt_72 rfl ?_
        refine V_getIs fk_X11_175 dX11_condemnSpoilt_73 (by assumption) (up2n (by decide) |>.trans (up2n (by decide) |>.trans hmi)) ?_
        refine V_invV (As := [_]) mv_X4_numbered lk_X11_140 dX11_condemnSpoilt_76 (c := 4) (by decide) rfl rfl hX.lo.2.1 rfl rfl (Nat.le_of_ble_eq_true rfl) ⟨⟨by decide, by decide⟩, by decide, by decide⟩ (sem_X4_numbered hX.lo.2.1 hX.lo.2.2.1 hX.lo.2.2.2 (up2n (by decide) |>.trans (up2n (by decide) |>.trans hn)) hn2 (fun ho => ?_) (fun i hi hv => ?_))
        · exact absurd rfl (ho _ hml) -- done
        · have hv2 : i = mi a := ((nI_eq (by omega) (by omega)).mp hv).symm
          subst hv2
          rw [hbm]
          refine V_as3 dX11_condemnSpoilt_79 (by decide) (noL_i _) ?_
          refine V_aload dX11_condemnSpoilt_80 rfl ?_
          refine V_ifnull dX11_condemnSpoilt_81 (fun hn81 => ?_) (fun a81 hs81 => ?_)
          · exact absurd hn81 (by simp)
          · cases hs81
            refine V_aload dX11_condemnSpoilt_84 rfl ?_
            refine V_dupr dX11_condemnSpoilt_85 ?_
            refine V_getIs fk_X11_265 dX11_condemnSpoilt_86 hbt (up2n (by decide) |>.trans (up2n (by decide))) ?_
            refine V_iload dX11_condemnSpoilt_89 rfl ?_
            refine V_iadd dX11_condemnSpoilt_90 ?_
            refine V_putI fk_X11_265 (Or.inl rfl) rfl rfl dX11_condemnSpoilt_91 hbt ?_
            refine V_aload dX11_condemnSpoilt_94 rfl ?_
            refine V_getR fk_X11_262 dX11_condemnSpoilt_95 (by assumption) ?_
            refine V_as1 dX11_condemnSpoilt_98 (by decide) (noL_r _) ?_
            refine V_goto dX11_condemnSpoilt_99 ?_
            exact V.sub (lsS (lsS (lsN (lsN ls0)))) (ih _ _ (up2n (by decide) |>.trans (up2n (by decide) |>.trans (up2n (by decide) |>.trans hw))) (up2n (by decide) |>.trans (up2n (by decide) |>.trans (up2n (by decide) |>.trans hn))) (fun b hb => by obtain ⟨g1, g2, g3⟩ := hok b (List.mem_cons_of_mem _ hb); exact ⟨g1, ⟨(up2n (by decide) |>.trans (up2n (by decide) |>.trans (up2n (by decide) |>.trans g2.1))), g2.2⟩, g3⟩) hch (by rw [List.foldl_cons] at q; unfold stCo loCo at q; rw [bI_f (fun h => h hc36)] at q; exact q))
      · rw [bI_0] at hc36
        refine V_const dX11_condemnSpoilt_39 ?_
        refine V_goto dX11_condemnSpoilt_40 ?_
        refine V_invV (As := [_, _, _]) mv_X1_loss lk_X11_300 dX11_condemnSpoilt_44 (c := 1) (by decide) rfl rfl (hX.kd.2.2 _ hk4).2.1 rfl rfl (Nat.le_of_ble_eq_true rfl) ⟨⟨by decide, by decide⟩, by decide, by decide⟩ (sem_X1_loss (hX.kd.2.2 _ hk4).2.1 (hX.kd.2.2 _ hk4).2.2.2.1 (hX.kd.2.2 _ hk4).2.2.2.2 ?_)
        refine V_is2 dX11_condemnSpoilt_47 (by decide) (noL_r _) ?_
        refine V_aload dX11_condemnSpoilt_48 rfl ?_
        refine V_dupr dX11_condemnSpoilt_49 ?_
        refine V_getI fk_X11_147 dX11_condemnSpoilt_50 (by assumption) ?_
        refine V_iload dX11_condemnSpoilt_53 rfl ?_
        refine V_isub dX11_condemnSpoilt_54 ?_
        refine V_putI fk_X11_147 (Or.inl rfl) rfl rfl dX11_condemnSpoilt_55 (by assumption) ?_
        refine V_aload dX11_condemnSpoilt_58 rfl ?_
        refine V_dupr dX11_condemnSpoilt_59 ?_
        refine V_getIs fk_X11_283 dX11_condemnSpoilt_60 hX.hx (up2n (by decide)) ?_
        refine V_iload dX11_condemnSpoilt_63 rfl ?_
        refine V_iadd dX11_condemnSpoilt_64 ?_
        refine V_putI fk_X11_283 (Or.inl rfl) rfl rfl dX11_condemnSpoilt_65 hX.hx ?_
        refine V_aload dX11_condemnSpoilt_68 rfl ?_
        refine V_getRs fk_X11_47 dX11_condemnSpoilt_69 hX.hx hX.lo.1 ?_
        refine V_aload dX11_condemnSpoilt_72 rfl ?_
        refine V_getIs fk_X11_175 dX11_condemnSpoilt_73 (by assumption) (up2n (by decide) |>.trans (up2n (by decide) |>.trans hmi)) ?_
        refine V_invV (As := [_]) mv_X4_numbered lk_X11_140 dX11_condemnSpoilt_76 (c := 4) (by decide) rfl rfl hX.lo.2.1 rfl rfl (Nat.le_of_ble_eq_true rfl) ⟨⟨by decide, by decide⟩, by decide, by decide⟩ (sem_X4_numbered hX.lo.2.1 hX.lo.2.2.1 hX.lo.2.2.2 (up2n (by decide) |>.trans (up2n (by decide) |>.trans hn)) hn2 (fun ho => ?_) (fun i hi hv => ?_))
        · exact absurd rfl (ho _ hml) -- done
        · have hv2 : i = mi a := ((nI_eq (by omega) (by omega)).mp hv).symm
          subst hv2
          rw [hbm]
          refine V_as3 dX11_condemnSpoilt_79 (by decide) (noL_i _) ?_
          refine V_aload dX11_condemnSpoilt_80 rfl ?_
          refine V_ifnull dX11_condemnSpoilt_81 (fun hn81 => ?_) (fun a81 hs81 => ?_)
          · exact absurd hn81 (by simp)
          · cases hs81
            refine V_aload dX11_condemnSpoilt_84 rfl ?_
            refine V_dupr dX11_condemnSpoilt_85 ?_
            refine V_getIs fk_X11_265 dX11_condemnSpoilt_86 hbt (up2n (by decide) |>.trans (up2n (by decide))) ?_
            refine V_iload dX11_condemnSpoilt_89 rfl ?_
            refine V_iadd dX11_condemnSpoilt_90 ?_
            refine V_putI fk_X11_265 (Or.inl rfl) rfl rfl dX11_condemnSpoilt_91 hbt ?_
            refine V_aload dX11_condemnSpoilt_94 rfl ?_
            refine V_getR fk_X11_262 dX11_condemnSpoilt_95 (by assumption) ?_
            refine V_as1 dX11_condemnSpoilt_98 (by decide) (noL_r _) ?_
            refine V_goto dX11_condemnSpoilt_99 ?_
            exact V.sub (lsS (lsS (lsN (lsN ls0)))) (ih _ _ (up2n (by decide) |>.trans (up2n (by decide) |>.trans (up2n (by decide) |>.trans hw))) (up2n (by decide) |>.trans (up2n (by decide) |>.trans (up2n (by decide) |>.trans hn))) (fun b hb => by obtain ⟨g1, g2, g3⟩ := hok b (List.mem_cons_of_mem _ hb); exact ⟨g1, ⟨(up2n (by decide) |>.trans (up2n (by decide) |>.trans (up2n (by decide) |>.trans g2.1))), g2.2⟩, g3⟩) hch (by rw [List.foldl_cons] at q; unfold stCo loCo at q; rw [bI_t hc36] at q; exact q))
theorem sem_X11_condemnSpoilt {l : Launch} {D : va_G} {A : Nat → Prop} {z : Nat} {t : TT} {I : MI} {R : MR} {J : MI} {B : MR} {x n : Nat} {si mi bm : Nat → Nat} {ch : List Nat} {Φ : PP} (hX : XSt x t I R B) (hn : I 401 (x + 127) = nI n) (hn2 : n ≤ 300) (hok : LotsOk x n t I R B si mi bm ch) (hch : Chain t R (R 402 (x + 127)) ch) (q : Φ none z t (ch.foldl (stCo x si bm (I 1111 x) J) I) R J B) : Sem l D A 2 0 0 mX11_condemnSpoilt [va_rf (some x)] z t I R J B Φ := by
  refine Sem.run [some (va_rf (some x)), none, none, none] (by decide) rfl (ent_r (ent_none (ent_none (ent_none ent_nil)))) ?_
  refine V_aload dX11_condemnSpoilt_0 rfl ?_
  refine V_getRs fk_X11_47 dX11_condemnSpoilt_1 hX.hx hX.lo.1 ?_
  refine V_getR fk_X11_258 dX11_condemnSpoilt_4 hX.lo.2.1 ?_
  refine V_as1 dX11_condemnSpoilt_7 (by decide) (noL_r _) ?_
  exact lp_X11_condemn I hX hn2 _ _ _ rfl hn hok hch q
