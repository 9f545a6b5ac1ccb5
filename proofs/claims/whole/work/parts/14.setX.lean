-- THE CLASS'S OBJECT: what never changes of its cells; the setters
def xPl (x p : Nat) : Nat := x + 23 + 13 * p
def xSo (x i : Nat) : Nat := x + 24 + 13 * (i / 4) + 3 * (i % 4)
def xKd (x k : Nat) : Nat := x + 15 + 2 * k
/-- the class's object at x: its cells as the constructor lays them -/
def XSt (x : Nat) (t : TT) (I : MI) (R : MR) (B : MR) : Prop :=
  (t x).1 = 12 ∧
  (R 1100 x = some (x + 1) ∧ t (x + 1) = (21, 8) ∧ ∀ p, p < 8 → B (x + 1) p = some (xPl x p) ∧ (t (xPl x p)).1 = 6 ∧ I 500 (xPl x p) = nI p) ∧
  (R 1101 x = some (x + 2) ∧ t (x + 2) = (22, 4) ∧ ∀ k, k < 4 → B (x + 2) k = some (xKd x k) ∧ (t (xKd x k)).1 = 2 ∧ I 100 (xKd x k) = nI k ∧ R 101 (xKd x k) = some (xKd x k + 1) ∧ t (xKd x k + 1) = (20, 10)) ∧
  (R 1102 x = some (x + 3) ∧ t (x + 3) = (23, 32) ∧ ∀ i, i < 32 → B (x + 3) i = some (xSo x i) ∧ (t (xSo x i)).1 = 8 ∧ I 700 (xSo x i) = nI i ∧ R 701 (xSo x i) = some (xPl x (i / 4)) ∧ R 702 (xSo x i) = some (xKd x (i % 4)) ∧ R 703 (xSo x i) = some (xSo x i + 1) ∧ R 704 (xSo x i) = some (xSo x i + 2) ∧ (t (xSo x i + 1)).1 = 10 ∧ (t (xSo x i + 2)).1 = 10) ∧
  (R 1103 x = some (x + 4) ∧ t (x + 4) = (26, 201)) ∧
  (R 1104 x = some (x + 6) ∧ t (x + 6) = (26, 8) ∧ ∀ p, p < 8 → B (x + 6) p = some (x + 7 + p) ∧ t (x + 7 + p) = (20, 8)) ∧
  (R 1105 x = some (x + 127) ∧ (t (x + 127)).1 = 5 ∧ R 400 (x + 127) = some (x + 128) ∧ t (x + 128) = (24, 300)) ∧
  (R 1106 x = some (x + 129) ∧ (t (x + 129)).1 = 11 ∧ R 1000 (x + 129) = some (x + 130) ∧ t (x + 130) = (20, 200)) ∧
  (R 1107 x = some (x + 131) ∧ (t (x + 131)).1 = 7 ∧ R 600 (x + 131) = some (x + 129)) ∧
  (R 1108 x = some (x + 132) ∧ t (x + 132) = (25, 10)) ∧
  (R 1110 x = some (x + 138) ∧ (t (x + 138)).1 = 3 ∧ R 200 (x + 138) = some (x + 139) ∧ R 201 (x + 138) = some (x + 140) ∧ t (x + 139) = (20, 40) ∧ t (x + 140) = (20, 40))
section XST
variable {x : Nat} {t : TT} {I : MI} {R : MR} {B : MR}
theorem XSt.hx (h : XSt x t I R B) : (t x).1 = 12 := h.1
theorem XSt.pl (h : XSt x t I R B) : R 1100 x = some (x + 1) ∧ t (x + 1) = (21, 8) ∧ ∀ p, p < 8 → B (x + 1) p = some (xPl x p) ∧ (t (xPl x p)).1 = 6 ∧ I 500 (xPl x p) = nI p := h.2.1
theorem XSt.kd (h : XSt x t I R B) : R 1101 x = some (x + 2) ∧ t (x + 2) = (22, 4) ∧ ∀ k, k < 4 → B (x + 2) k = some (xKd x k) ∧ (t (xKd x k)).1 = 2 ∧ I 100 (xKd x k) = nI k ∧ R 101 (xKd x k) = some (xKd x k + 1) ∧ t (xKd x k + 1) = (20, 10) := h.2.2.1
theorem XSt.so (h : XSt x t I R B) : R 1102 x = some (x + 3) ∧ t (x + 3) = (23, 32) ∧ ∀ i, i < 32 → B (x + 3) i = some (xSo x i) ∧ (t (xSo x i)).1 = 8 ∧ I 700 (xSo x i) = nI i ∧ R 701 (xSo x i) = some (xPl x (i / 4)) ∧ R 702 (xSo x i) = some (xKd x (i % 4)) ∧ R 703 (xSo x i) = some (xSo x i + 1) ∧ R 704 (xSo x i) = some (xSo x i + 2) ∧ (t (xSo x i + 1)).1 = 10 ∧ (t (xSo x i + 2)).1 = 10 := h.2.2.2.1
theorem XSt.bg (h : XSt x t I R B) : R 1103 x = some (x + 4) ∧ t (x + 4) = (26, 201) := h.2.2.2.2.1
theorem XSt.wy (h : XSt x t I R B) : R 1104 x = some (x + 6) ∧ t (x + 6) = (26, 8) ∧ ∀ p, p < 8 → B (x + 6) p = some (x + 7 + p) ∧ t (x + 7 + p) = (20, 8) := h.2.2.2.2.2.1
theorem XSt.lo (h : XSt x t I R B) : R 1105 x = some (x + 127) ∧ (t (x + 127)).1 = 5 ∧ R 400 (x + 127) = some (x + 128) ∧ t (x + 128) = (24, 300) := h.2.2.2.2.2.2.1
theorem XSt.tp (h : XSt x t I R B) : R 1106 x = some (x + 129) ∧ (t (x + 129)).1 = 11 ∧ R 1000 (x + 129) = some (x + 130) ∧ t (x + 130) = (20, 200) := h.2.2.2.2.2.2.2.1
theorem XSt.rd (h : XSt x t I R B) : R 1107 x = some (x + 131) ∧ (t (x + 131)).1 = 7 ∧ R 600 (x + 131) = some (x + 129) := h.2.2.2.2.2.2.2.2.1
theorem XSt.co (h : XSt x t I R B) : R 1108 x = some (x + 132) ∧ t (x + 132) = (25, 10) := h.2.2.2.2.2.2.2.2.2.1
theorem XSt.li (h : XSt x t I R B) : R 1110 x = some (x + 138) ∧ (t (x + 138)).1 = 3 ∧ R 200 (x + 138) = some (x + 139) ∧ R 201 (x + 138) = some (x + 140) ∧ t (x + 139) = (20, 40) ∧ t (x + 140) = (20, 40) := h.2.2.2.2.2.2.2.2.2.2
end XST
theorem sem_X11_men {l : Launch} {D : va_G} {A : Nat → Prop} {z : Nat} {t : TT} {I : MI} {R : MR} {J : MI} {B : MR} {x : Nat} {p n : Int32} {Φ : PP} (hX : XSt x t I R B) (q0 : ¬ ((0 ≤ p ∧ p ≤ 7) ∧ 0 ≤ n ∧ n ≤ 1000) → Φ (some (.int 0)) z t I R J B) (q : ∀ j, j < 8 → p = nI j → 0 ≤ n ∧ n ≤ 1000 → Φ (some (.int 1)) z t (up2 I 501 (xPl x j) n) R J B) : Sem l D A 2 0 0 mX11_men [va_rf (some x), .int p, .int n] z t I R J B Φ := by
  refine Sem.run [some (va_rf (some x)), some (.int p), some (.int n), none] (by decide) rfl (ent_r (ent_i (ent_i (ent_none ent_nil)))) ?_
  refine V_aload dX11_men_0 rfl ?_
  refine V_iload dX11_men_1 rfl ?_
  refine V_invV (As := [_]) mv_X11_placeOf lk_X11_85 dX11_men_2 (c := 11) (by decide) rfl rfl hX.hx rfl rfl (Nat.le_of_ble_eq_true rfl) ⟨⟨by decide, by decide⟩, by decide, by decide⟩ (sem_X11_placeOf hX.hx hX.pl.1 hX.pl.2.1 (fun ho2 => ?_) (fun j hj hvj => ?_))
  · refine V_as3 dX11_men_5 (by decide) (noL_i _) ?_
    refine V_aload dX11_men_6 rfl ?_
    refine V_ifnull dX11_men_7 (fun hn7 => ?_) (fun a7 hs7 => ?_)
    · refine V_const dX11_men_21 ?_
      exact V_zret dX11_men_22 rfl (by first | exact Or.inl rfl | exact Or.inr rfl) (by decide) (by decide) (q0 (fun h => by obtain ⟨i, hi, hv⟩ := i_rng (N := 8) rfl h.1; exact ho2 i hi hv))
    · exact absurd hs7 (by simp)
  · rw [(hX.pl.2.2 j hj).1]
    refine V_as3 dX11_men_5 (by decide) (noL_i _) ?_
    refine V_aload dX11_men_6 rfl ?_
    refine V_ifnull dX11_men_7 (fun hn7 => ?_) (fun a7 hs7 => ?_)
    · exact absurd hn7 (by simp)
    · cases hs7
      refine V_iload dX11_men_10 rfl ?_
      refine V_const dX11_men_11 ?_
      refine V_const dX11_men_12 ?_
      refine V_invS (As := [_, _, _]) ms_X11_within lk_X11_89 dX11_men_15 rfl rfl rfl (Nat.le_of_ble_eq_true rfl) ⟨⟨by decide, by decide⟩, by decide, by decide⟩ (sem_X11_within ?_)
      refine V_if_ne dX11_men_18 (fun hc18 => ?_) (fun hc18 => ?_)
      · rw [bI_n0] at hc18
        refine V_aload dX11_men_23 rfl ?_
        refine V_iload dX11_men_24 rfl ?_
        refine V_putI fk_X11_93 (Or.inl rfl) rfl rfl dX11_men_25 (hX.pl.2.2 j hj).2.1 ?_
        refine V_const dX11_men_28 ?_
        exact V_zret dX11_men_29 rfl (by first | exact Or.inl rfl | exact Or.inr rfl) (by decide) (by decide) (q j hj hvj hc18)
      · rw [bI_0] at hc18
        refine V_const dX11_men_21 ?_
        exact V_zret dX11_men_22 rfl (by first | exact Or.inl rfl | exact Or.inr rfl) (by decide) (by decide) (q0 (fun h => hc18 h.2))
theorem sem_X11_rations {l : Launch} {D : va_G} {A : Nat → Prop} {z : Nat} {t : TT} {I : MI} {R : MR} {J : MI} {B : MR} {x : Nat} {p n : Int32} {Φ : PP} (hX : XSt x t I R B) (q0 : ¬ ((0 ≤ p ∧ p ≤ 3) ∧ 1 ≤ n ∧ n ≤ 500) → Φ (some (.int 0)) z t I R J B) (q : ∀ j, j < 4 → p = nI j → 1 ≤ n ∧ n ≤ 500 → Φ (some (.int 1)) z t (up2 I 102 (xKd x j) n) R J B) : Sem l D A 2 0 0 mX11_rations [va_rf (some x), .int p, .int n] z t I R J B Φ := by
  refine Sem.run [some (va_rf (some x)), some (.int p), some (.int n), none] (by decide) rfl (ent_r (ent_i (ent_i (ent_none ent_nil)))) ?_
  refine V_aload dX11_rations_0 rfl ?_
  refine V_iload dX11_rations_1 rfl ?_
  refine V_invV (As := [_]) mv_X11_kindOf lk_X11_97 dX11_rations_2 (c := 11) (by decide) rfl rfl hX.hx rfl rfl (Nat.le_of_ble_eq_true rfl) ⟨⟨by decide, by decide⟩, by decide, by decide⟩ (sem_X11_kindOf hX.hx hX.kd.1 hX.kd.2.1 (fun ho2 => ?_) (fun j hj hvj => ?_))
  · refine V_as3 dX11_rations_5 (by decide) (noL_i _) ?_
    refine V_aload dX11_rations_6 rfl ?_
    refine V_ifnull dX11_rations_7 (fun hn7 => ?_) (fun a7 hs7 => ?_)
    · refine V_const dX11_rations_21 ?_
      exact V_zret dX11_rations_22 rfl (by first | exact Or.inl rfl | exact Or.inr rfl) (by decide) (by decide) (q0 (fun h => by obtain ⟨i, hi, hv⟩ := i_rng (N := 4) rfl h.1; exact ho2 i hi hv))
    · exact absurd hs7 (by simp)
  · rw [(hX.kd.2.2 j hj).1]
    refine V_as3 dX11_rations_5 (by decide) (noL_i _) ?_
    refine V_aload dX11_rations_6 rfl ?_
    refine V_ifnull dX11_rations_7 (fun hn7 => ?_) (fun a7 hs7 => ?_)
    · exact absurd hn7 (by simp)
    · cases hs7
      refine V_iload dX11_rations_10 rfl ?_
      refine V_const dX11_rations_11 ?_
      refine V_const dX11_rations_12 ?_
      refine V_invS (As := [_, _, _]) ms_X11_within lk_X11_89 dX11_rations_15 rfl rfl rfl (Nat.le_of_ble_eq_true rfl) ⟨⟨by decide, by decide⟩, by decide, by decide⟩ (sem_X11_within ?_)
      refine V_if_ne dX11_rations_18 (fun hc18 => ?_) (fun hc18 => ?_)
      · rw [bI_n0] at hc18
        refine V_aload dX11_rations_23 rfl ?_
        refine V_iload dX11_rations_24 rfl ?_
        refine V_putI fk_X11_101 (Or.inl rfl) rfl rfl dX11_rations_25 (hX.kd.2.2 j hj).2.1 ?_
        refine V_const dX11_rations_28 ?_
        exact V_zret dX11_rations_29 rfl (by first | exact Or.inl rfl | exact Or.inr rfl) (by decide) (by decide) (q j hj hvj hc18)
      · rw [bI_0] at hc18
        refine V_const dX11_rations_21 ?_
        exact V_zret dX11_rations_22 rfl (by first | exact Or.inl rfl | exact Or.inr rfl) (by decide) (by decide) (q0 (fun h => hc18 h.2))
theorem sem_X11_lag {l : Launch} {D : va_G} {A : Nat → Prop} {z : Nat} {t : TT} {I : MI} {R : MR} {J : MI} {B : MR} {x : Nat} {p n : Int32} {Φ : PP} (hX : XSt x t I R B) (q0 : ¬ ((0 ≤ p ∧ p ≤ 7) ∧ 0 ≤ n ∧ n ≤ 30) → Φ (some (.int 0)) z t I R J B) (q : ∀ j, j < 8 → p = nI j → 0 ≤ n ∧ n ≤ 30 → Φ (some (.int 1)) z t (up2 I 502 (xPl x j) n) R J B) : Sem l D A 2 0 0 mX11_lag [va_rf (some x), .int p, .int n] z t I R J B Φ := by
  refine Sem.run [some (va_rf (some x)), some (.int p), some (.int n), none] (by decide) rfl (ent_r (ent_i (ent_i (ent_none ent_nil)))) ?_
  refine V_aload dX11_lag_0 rfl ?_
  refine V_iload dX11_lag_1 rfl ?_
  refine V_invV (As := [_]) mv_X11_placeOf lk_X11_85 dX11_lag_2 (c := 11) (by decide) rfl rfl hX.hx rfl rfl (Nat.le_of_ble_eq_true rfl) ⟨⟨by decide, by decide⟩, by decide, by decide⟩ (sem_X11_placeOf hX.hx hX.pl.1 hX.pl.2.1 (fun ho2 => ?_) (fun j hj hvj => ?_))
  · refine V_as3 dX11_lag_5 (by decide) (noL_i _) ?_
    refine V_aload dX11_lag_6 rfl ?_
    refine V_ifnull dX11_lag_7 (fun hn7 => ?_) (fun a7 hs7 => ?_)
    · refine V_const dX11_lag_20 ?_
      exact V_zret dX11_lag_21 rfl (by first | exact Or.inl rfl | exact Or.inr rfl) (by decide) (by decide) (q0 (fun h => by obtain ⟨i, hi, hv⟩ := i_rng (N := 8) rfl h.1; exact ho2 i hi hv))
    · exact absurd hs7 (by simp)
  · rw [(hX.pl.2.2 j hj).1]
    refine V_as3 dX11_lag_5 (by decide) (noL_i _) ?_
    refine V_aload dX11_lag_6 rfl ?_
    refine V_ifnull dX11_lag_7 (fun hn7 => ?_) (fun a7 hs7 => ?_)
    · exact absurd hn7 (by simp)
    · cases hs7
      refine V_iload dX11_lag_10 rfl ?_
      refine V_const dX11_lag_11 ?_
      refine V_const dX11_lag_12 ?_
      refine V_invS (As := [_, _, _]) ms_X11_within lk_X11_89 dX11_lag_14 rfl rfl rfl (Nat.le_of_ble_eq_true rfl) ⟨⟨by decide, by decide⟩, by decide, by decide⟩ (sem_X11_within ?_)
      refine V_if_ne dX11_lag_17 (fun hc17 => ?_) (fun hc17 => ?_)
      · rw [bI_n0] at hc17
        refine V_aload dX11_lag_22 rfl ?_
        refine V_iload dX11_lag_23 rfl ?_
        refine V_putI fk_X11_107 (Or.inl rfl) rfl rfl dX11_lag_24 (hX.pl.2.2 j hj).2.1 ?_
        refine V_const dX11_lag_27 ?_
        exact V_zret dX11_lag_28 rfl (by first | exact Or.inl rfl | exact Or.inr rfl) (by decide) (by decide) (q j hj hvj hc17)
      · rw [bI_0] at hc17
        refine V_const dX11_lag_20 ?_
        exact V_zret dX11_lag_21 rfl (by first | exact Or.inl rfl | exact Or.inr rfl) (by decide) (by decide) (q0 (fun h => hc17 h.2))
theorem sem_X11_spoils {l : Launch} {D : va_G} {A : Nat → Prop} {z : Nat} {t : TT} {I : MI} {R : MR} {J : MI} {B : MR} {x : Nat} {p a n : Int32} {Φ : PP} (hX : XSt x t I R B) (q0 : ¬ ((0 ≤ p ∧ p ≤ 3) ∧ (0 ≤ a ∧ a ≤ 9) ∧ 0 ≤ n ∧ n ≤ 1000) → Φ (some (.int 0)) z t I R J B) (q : ∀ j i, j < 4 → i < 10 → p = nI j → a = nI i → 0 ≤ n ∧ n ≤ 1000 → Φ (some (.int 1)) z t I R (up2 J (xKd x j + 1) i n) B) : Sem l D A 2 0 0 mX11_spoils [va_rf (some x), .int p, .int a, .int n] z t I R J B Φ := by
  refine Sem.run [some (va_rf (some x)), some (.int p), some (.int a), some (.int n), none] (by decide) rfl (ent_r (ent_i (ent_i (ent_i (ent_none ent_nil))))) ?_
  refine V_aload dX11_spoils_0 rfl ?_
  refine V_iload dX11_spoils_1 rfl ?_
  refine V_invV (As := [_]) mv_X11_kindOf lk_X11_97 dX11_spoils_2 (c := 11) (by decide) rfl rfl hX.hx rfl rfl (Nat.le_of_ble_eq_true rfl) ⟨⟨by decide, by decide⟩, by decide, by decide⟩ (sem_X11_kindOf hX.hx hX.kd.1 hX.kd.2.1 (fun ho2 => ?_) (fun j hj hvj => ?_))
  · refine V_as4 dX11_spoils_5 (by decide) (noL_i _) ?_
    refine V_aload dX11_spoils_7 rfl ?_
    refine V_ifnull dX11_spoils_9 (fun hn9 => ?_) (fun a9 hs9 => ?_)
    · refine V_const dX11_spoils_33 ?_
      exact V_zret dX11_spoils_34 rfl (by first | exact Or.inl rfl | exact Or.inr rfl) (by decide) (by decide) (q0 (fun h => by obtain ⟨i, hi, hv⟩ := i_rng (N := 4) rfl h.1; exact ho2 i hi hv))
    · exact absurd hs9 (by simp)
  · rw [(hX.kd.2.2 j hj).1]
    refine V_as4 dX11_spoils_5 (by decide) (noL_i _) ?_
    refine V_aload dX11_spoils_7 rfl ?_
    refine V_ifnull dX11_spoils_9 (fun hn9 => ?_) (fun a9 hs9 => ?_)
    · exact absurd hn9 (by simp)
    · cases hs9
      refine V_iload dX11_spoils_12 rfl ?_
      refine V_const dX11_spoils_13 ?_
      refine V_const dX11_spoils_14 ?_
      refine V_invS (As := [_, _, _]) ms_X11_within lk_X11_89 dX11_spoils_16 rfl rfl rfl (Nat.le_of_ble_eq_true rfl) ⟨⟨by decide, by decide⟩, by decide, by decide⟩ (sem_X11_within ?_)
      refine V_if_eq dX11_spoils_19 (fun hc19 => ?_) (fun hc19 => ?_)
      · rw [bI_0] at hc19
        refine V_const dX11_spoils_33 ?_
        exact V_zret dX11_spoils_34 rfl (by first | exact Or.inl rfl | exact Or.inr rfl) (by decide) (by decide) (q0 (fun h => hc19 h.2.1))
      · rw [bI_n0] at hc19
        obtain ⟨i, hi, hvi⟩ := i_rng (N := 10) rfl hc19
        refine V_iload dX11_spoils_22 rfl ?_
        refine V_const dX11_spoils_23 ?_
        refine V_const dX11_spoils_24 ?_
        refine V_invS (As := [_, _, _]) ms_X11_within lk_X11_89 dX11_spoils_27 rfl rfl rfl (Nat.le_of_ble_eq_true rfl) ⟨⟨by decide, by decide⟩, by decide, by decide⟩ (sem_X11_within ?_)
        refine V_if_ne dX11_spoils_30 (fun hc30 => ?_) (fun hc30 => ?_)
        · rw [bI_n0] at hc30
          refine V_aload dX11_spoils_35 rfl ?_
          refine V_getRs fk_X11_104 dX11_spoils_37 (hX.kd.2.2 j hj).2.1 (hX.kd.2.2 j hj).2.2.2.1 ?_
          refine V_iload dX11_spoils_40 rfl ?_
          refine V_iload dX11_spoils_41 rfl ?_
          refine V_iast dX11_spoils_42 (hX.kd.2.2 j hj).2.2.2.2 hvi hi (by decide) ?_
          refine V_const dX11_spoils_43 ?_
          exact V_zret dX11_spoils_44 rfl (by first | exact Or.inl rfl | exact Or.inr rfl) (by decide) (by decide) (q j i hj hi hvj hvi hc30)
        · rw [bI_0] at hc30
          refine V_const dX11_spoils_33 ?_
          exact V_zret dX11_spoils_34 rfl (by first | exact Or.inl rfl | exact Or.inr rfl) (by decide) (by decide) (q0 (fun h => hc30 h.2.2))
theorem sem_X11_way {l : Launch} {D : va_G} {A : Nat → Prop} {z : Nat} {t : TT} {I : MI} {R : MR} {J : MI} {B : MR} {x : Nat} {a b w : Int32} {Φ : PP} (hX : XSt x t I R B) (q0 : ¬ ((0 ≤ a ∧ a ≤ 7) ∧ (0 ≤ b ∧ b ≤ 7) ∧ a ≠ b ∧ 0 ≤ w ∧ w ≤ 30) → Φ (some (.int 0)) z t I R J B) (q : ∀ i j, i < 8 → j < 8 → i ≠ j → a = nI i → b = nI j → 0 ≤ w ∧ w ≤ 30 → Φ (some (.int 1)) z t I R (up2 (up2 J (x + 7 + i) j w) (x + 7 + j) i w) B) : Sem l D A 2 0 0 mX11_way [va_rf (some x), .int a, .int b, .int w] z t I R J B Φ := by
  refine Sem.run [some (va_rf (some x)), some (.int a), some (.int b), some (.int w)] (by decide) rfl (ent_r (ent_i (ent_i (ent_i ent_nil)))) ?_
  refine V_aload dX11_way_0 rfl ?_
  refine V_iload dX11_way_1 rfl ?_
  refine V_invV (As := [_]) mv_X11_placeOf lk_X11_85 dX11_way_2 (c := 11) (by decide) rfl rfl hX.hx rfl rfl (Nat.le_of_ble_eq_true rfl) ⟨⟨by decide, by decide⟩, by decide, by decide⟩ (sem_X11_placeOf hX.hx hX.pl.1 hX.pl.2.1 (fun ho2 => ?_) (fun i hi hvi => ?_))
  · refine V_ifnull dX11_way_5 (fun hn5 => ?_) (fun a5 hs5 => ?_)
    · refine V_const dX11_way_21 ?_
      exact V_zret dX11_way_22 rfl (by first | exact Or.inl rfl | exact Or.inr rfl) (by decide) (by decide) (q0 (fun h => by obtain ⟨i, hi, hv⟩ := i_rng (N := 8) rfl h.1; exact ho2 i hi hv))
    · exact absurd hs5 (by simp)
  · rw [(hX.pl.2.2 i hi).1]
    refine V_ifnull dX11_way_5 (fun hn5 => ?_) (fun a5 hs5 => ?_)
    · exact absurd hn5 (by simp)
    · cases hs5
      refine V_aload dX11_way_8 rfl ?_
      refine V_iload dX11_way_9 rfl ?_
      refine V_invV (As := [_]) mv_X11_placeOf lk_X11_85 dX11_way_10 (c := 11) (by decide) rfl rfl hX.hx rfl rfl (Nat.le_of_ble_eq_true rfl) ⟨⟨by decide, by decide⟩, by decide, by decide⟩ (sem_X11_placeOf hX.hx hX.pl.1 hX.pl.2.1 (fun ho10 => ?_) (fun j hj hvj => ?_))
      · refine V_ifnull dX11_way_13 (fun hn13 => ?_) (fun a13 hs13 => ?_)
        · refine V_const dX11_way_21 ?_
          exact V_zret dX11_way_22 rfl (by first | exact Or.inl rfl | exact Or.inr rfl) (by decide) (by decide) (q0 (fun h => by obtain ⟨i, hi, hv⟩ := i_rng (N := 8) rfl h.2.1; exact ho10 i hi hv))
        · exact absurd hs13 (by simp)
      · rw [(hX.pl.2.2 j hj).1]
        refine V_ifnull dX11_way_13 (fun hn13 => ?_) (fun a13 hs13 => ?_)
        · exact absurd hn13 (by simp)
        · cases hs13
          refine V_iload dX11_way_16 rfl ?_
          refine V_iload dX11_way_17 rfl ?_
          refine V_icmp_ne dX11_way_18 (fun hc18 => ?_) (fun hc18 => ?_)
          · refine V_iload dX11_way_23 rfl ?_
            refine V_const dX11_way_24 ?_
            refine V_const dX11_way_25 ?_
            refine V_invS (As := [_, _, _]) ms_X11_within lk_X11_89 dX11_way_27 rfl rfl rfl (Nat.le_of_ble_eq_true rfl) ⟨⟨by decide, by decide⟩, by decide, by decide⟩ (sem_X11_within ?_)
            refine V_if_ne dX11_way_30 (fun hc30 => ?_) (fun hc30 => ?_)
            · rw [bI_n0] at hc30
              refine V_aload dX11_way_35 rfl ?_
              refine V_getRs fk_X11_34 dX11_way_36 hX.hx hX.wy.1 ?_
              refine V_iload dX11_way_39 rfl ?_
              refine V_aalds (j := 5) dX11_way_40 rfl (by decide) hX.wy.2.1 hvi hi (by decide) (hX.wy.2.2 i hi).1 ?_
              refine V_iload dX11_way_41 rfl ?_
              refine V_iload dX11_way_42 rfl ?_
              refine V_iast dX11_way_43 (hX.wy.2.2 i hi).2 hvj hj (by decide) ?_
              refine V_aload dX11_way_44 rfl ?_
              refine V_getRs fk_X11_34 dX11_way_45 hX.hx hX.wy.1 ?_
              refine V_iload dX11_way_48 rfl ?_
              refine V_aalds (j := 5) dX11_way_49 rfl (by decide) hX.wy.2.1 hvj hj (by decide) (hX.wy.2.2 j hj).1 ?_
              refine V_iload dX11_way_50 rfl ?_
              refine V_iload dX11_way_51 rfl ?_
              refine V_iast dX11_way_52 (hX.wy.2.2 j hj).2 hvi hi (by decide) ?_
              refine V_const dX11_way_53 ?_
              exact V_zret dX11_way_54 rfl (by first | exact Or.inl rfl | exact Or.inr rfl) (by decide) (by decide) (q i j hi hj (fun e => hc18 (by rw [hvi, hvj, e])) hvi hvj hc30)
            · rw [bI_0] at hc30
              refine V_const dX11_way_33 ?_
              exact V_zret dX11_way_34 rfl (by first | exact Or.inl rfl | exact Or.inr rfl) (by decide) (by decide) (q0 (fun h => hc30 h.2.2.2))
          · refine V_const dX11_way_21 ?_
            exact V_zret dX11_way_22 rfl (by first | exact Or.inl rfl | exact Or.inr rfl) (by decide) (by decide) (q0 (fun h => h.2.2.1 hc18))
