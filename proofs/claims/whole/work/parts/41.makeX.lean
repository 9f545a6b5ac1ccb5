-- MAKING THE CLASS'S OBJECT
def Ag (z : Nat) (t : TT) (I : MI) (R : MR) (J : MI) (t' : TT) (I' : MI) (R' : MR) (J' : MI) : Prop := ∀ a, a < z → t' a = t a ∧ (∀ f, I' f a = I f a) ∧ (∀ f, f < 1105 → R' f a = R f a) ∧ J' a = J a
def IBase (x : Nat) (t : TT) (I : MI) (R : MR) (J : MI) (B : MR) : Prop :=
  (t x).1 = 12 ∧ (∀ f, I f x = 0) ∧ (R 1100 x = some (x + 1) ∧ t (x + 1) = (21, 8)) ∧ (R 1101 x = some (x + 2) ∧ t (x + 2) = (22, 4)) ∧ (R 1102 x = some (x + 3) ∧ t (x + 3) = (23, 32)) ∧ (R 1103 x = some (x + 4) ∧ t (x + 4) = (26, 201)) ∧ (B (x + 4) 0 = some (x + 5) ∧ t (x + 5) = (20, 32) ∧ J (x + 5) = fun _ => 0) ∧ (R 1104 x = some (x + 6) ∧ t (x + 6) = (26, 8)) ∧ ∀ p, p < 8 → B (x + 6) p = some (x + 7 + p) ∧ t (x + 7 + p) = (20, 8)
def KdP (x k : Nat) (t : TT) (I : MI) (R : MR) (J : MI) (B : MR) : Prop := ∀ j, j < k → B (x + 2) j = some (xKd x j) ∧ (t (xKd x j)).1 = 2 ∧ I 100 (xKd x j) = nI j ∧ I 102 (xKd x j) = 50 ∧ R 101 (xKd x j) = some (xKd x j + 1) ∧ t (xKd x j + 1) = (20, 10) ∧ J (xKd x j + 1) = fun _ => 0
def PlP (x p : Nat) (t : TT) (I : MI) (B : MR) : Prop := ∀ j, j < p → B (x + 1) j = some (xPl x j) ∧ (t (xPl x j)).1 = 6 ∧ I 500 (xPl x j) = nI j ∧ I 501 (xPl x j) = 0 ∧ I 502 (xPl x j) = 0
def SoP (x s : Nat) (t : TT) (I : MI) (R : MR) (B : MR) : Prop := ∀ i, i < s → B (x + 3) i = some (xSo x i) ∧ (t (xSo x i)).1 = 8 ∧ I 700 (xSo x i) = nI i ∧ R 701 (xSo x i) = some (xPl x (i / 4)) ∧ R 702 (xSo x i) = some (xKd x (i % 4)) ∧ R 703 (xSo x i) = some (xSo x i + 1) ∧ R 704 (xSo x i) = some (xSo x i + 2) ∧ (t (xSo x i + 1)).1 = 10 ∧ (t (xSo x i + 2)).1 = 10 ∧ I 705 (xSo x i) = 0 ∧ I 706 (xSo x i) = 0 ∧ R 707 (xSo x i) = none ∧ I 900 (xSo x i + 1) = 0
def WyP (x p : Nat) (J : MI) : Prop := ∀ j q, j < p → q < 8 → J (x + 7 + j) q = 2
section STB
variable {x k z : Nat} {t t' : TT} {I I' : MI} {R R' : MR} {J J' : MI} {B B' : MR}
theorem Ag.refl : Ag z t I R J t I R J := fun _ _ => ⟨rfl, fun _ => rfl, fun _ _ => rfl, rfl⟩
theorem IBase.ag (h : IBase x t I R J B) (hz : x + 15 ≤ z) (g : Ag z t I R J t' I' R' J') (h4 : B' (x + 4) = B (x + 4)) (h6 : B' (x + 6) = B (x + 6)) : IBase x t' I' R' J' B' := by
  obtain ⟨a1, a2, a3, a4, a5, a6, a7, a8, a9⟩ := h
  have g0 := g x (by omega)
  have e := fun j (hj : j < 15) => (g (x + j) (by omega))
  refine ⟨by rw [g0.1]; exact a1, fun f => by rw [g0.2.1]; exact a2 f, ⟨by rw [g0.2.2.1 1100 (by decide)]; exact a3.1, by rw [(e 1 (by omega)).1]; exact a3.2⟩, ⟨by rw [g0.2.2.1 1101 (by decide)]; exact a4.1, by rw [(e 2 (by omega)).1]; exact a4.2⟩, ⟨by rw [g0.2.2.1 1102 (by decide)]; exact a5.1, by rw [(e 3 (by omega)).1]; exact a5.2⟩, ⟨by rw [g0.2.2.1 1103 (by decide)]; exact a6.1, by rw [(e 4 (by omega)).1]; exact a6.2⟩, ⟨by rw [h4]; exact a7.1, by rw [(e 5 (by omega)).1]; exact a7.2.1, by rw [(e 5 (by omega)).2.2.2]; exact a7.2.2⟩, ⟨by rw [g0.2.2.1 1104 (by decide)]; exact a8.1, by rw [(e 6 (by omega)).1]; exact a8.2⟩, fun p hp => ⟨by rw [h6]; exact (a9 p hp).1, by rw [(g (x + 7 + p) (by omega)).1]; exact (a9 p hp).2⟩⟩
theorem IBase.j (h : IBase x t I R J B) (h5 : J' (x + 5) = J (x + 5)) : IBase x t I R J' B := by
  obtain ⟨a1, a2, a3, a4, a5, a6, a7, a8, a9⟩ := h
  exact ⟨a1, a2, a3, a4, a5, a6, ⟨a7.1, a7.2.1, h5.trans a7.2.2⟩, a8, a9⟩
theorem KdP.ag (h : KdP x k t I R J B) (hz : x + 15 + 2 * k ≤ z) (g : Ag z t I R J t' I' R' J') (hb : ∀ j, j < k → B' (x + 2) j = B (x + 2) j) : KdP x k t' I' R' J' B' := fun j hj => by
  have e1 := g (xKd x j) (by unfold xKd; omega)
  have e2 := g (xKd x j + 1) (by unfold xKd; omega)
  simp only [e1.1, e1.2.1, e1.2.2.1 101 (by decide), e2.1, e2.2.2.2, hb j hj]
  exact h j hj
theorem KdP.j (h : KdP x k t I R J B) (hj : ∀ a, x + 15 ≤ a → J' a = J a) : KdP x k t I R J' B := fun j hjk => by
  rw [hj (xKd x j + 1) (by unfold xKd; omega)]
  exact h j hjk
theorem PlP.ag (h : PlP x k t I B) (hz : ∀ j, j < k → xPl x j < z) (g : Ag z t I R J t' I' R' J') (hb : ∀ j, j < k → B' (x + 1) j = B (x + 1) j) : PlP x k t' I' B' := fun j hj => by
  have e1 := g (xPl x j) (hz j hj)
  simp only [e1.1, e1.2.1, hb j hj]
  exact h j hj
theorem xSo_lt {s : Nat} (hs : s < k) : xSo x s + 3 ≤ x + 24 + 13 * (k / 4) + 3 * (k % 4) := by unfold xSo; omega
theorem SoP.ag (h : SoP x k t I R B) (hz : x + 24 + 13 * (k / 4) + 3 * (k % 4) ≤ z + (if k % 4 = 0 then 1 else 0)) (g : Ag z t I R J t' I' R' J') (hb : ∀ j, j < k → B' (x + 3) j = B (x + 3) j) : SoP x k t' I' R' B' := fun j hj => by
  have hq : xSo x j + 3 ≤ z := by
    unfold xSo
    by_cases e : k % 4 = 0
    · rw [if_pos e] at hz
      omega
    · rw [if_neg e] at hz
      omega
  have e1 := g (xSo x j) (by omega)
  have e2 := g (xSo x j + 1) (by omega)
  have e3 := g (xSo x j + 2) (by omega)
  simp only [e1.1, e1.2.1, e1.2.2.1 701 (by decide), e1.2.2.1 702 (by decide), e1.2.2.1 703 (by decide), e1.2.2.1 704 (by decide), e1.2.2.1 707 (by decide), e2.1, e2.2.1, e3.1, hb j hj]
  exact h j hj
theorem WyP.ag (h : WyP x k J) (hk : k ≤ 8) (hz : x + 15 ≤ z) (g : Ag z t I R J t' I' R' J') : WyP x k J' := fun j q hj hq => by
  rw [(g (x + 7 + j) (by omega)).2.2.2]
  exact h j q hj hq
end STB
theorem Ag.kd {z k : Nat} {t : TT} {I : MI} {R : MR} {J : MI} {v : Int32} : Ag z t I R J (va_up (va_up t z (2, 0)) (z + 1) (20, 10)) (up2 (up2 (zI I z) 100 z v) 102 z 50) (up2 (zR R z) 101 z (some (z + 1))) (va_up J (z + 1) (fun _ => 0)) := fun a ha => by
  refine ⟨by rw [va_up_ne _ _ (by omega), va_up_ne _ _ (by omega)], fun f => by rw [up2o (by omega), up2o (by omega), zI_ne _ _ (by omega)], fun f _ => by rw [up2o (by omega), zR_ne _ _ (by omega)], by rw [va_up_ne _ _ (by omega)]⟩
theorem Ag.pl {z : Nat} {t : TT} {I : MI} {R : MR} {J : MI} {v : Int32} : Ag z t I R J (va_up t z (6, 0)) (up2 (zI I z) 500 z v) (zR R z) J := fun a ha => by
  refine ⟨by rw [va_up_ne _ _ (by omega)], fun f => by rw [up2o (by omega), zI_ne _ _ (by omega)], fun f _ => by rw [zR_ne _ _ (by omega)], rfl⟩
theorem Ag.so {z : Nat} {t : TT} {I : MI} {R : MR} {J : MI} {v : Int32} {rp rk : Option Nat} : Ag z t I R J (va_up (va_up (va_up t z (8, 0)) (z + 1) (10, 0)) (z + 1 + 1) (10, 0)) (zI (zI (up2 (zI I z) 700 z v) (z + 1)) (z + 1 + 1)) (up2 (zR (up2 (zR (up2 (up2 (zR R z) 701 z rp) 702 z rk) (z + 1)) 703 z (some (z + 1))) (z + 1 + 1)) 704 z (some (z + 1 + 1))) J := fun a ha => by
  refine ⟨by rw [va_up_ne _ _ (by omega), va_up_ne _ _ (by omega), va_up_ne _ _ (by omega)], fun f => by rw [zI_ne _ _ (by omega), zI_ne _ _ (by omega), up2o (by omega), zI_ne _ _ (by omega)], fun f _ => by rw [up2o (by omega), zR_ne _ _ (by omega), up2o (by omega), zR_ne _ _ (by omega), up2o (by omega), up2o (by omega), zR_ne _ _ (by omega)], rfl⟩
/-- k kinds made -/
def XK (x k z : Nat) (t : TT) (I : MI) (R : MR) (J : MI) (B : MR) : Prop := z = x + 15 + 2 * k ∧ IBase x t I R J B ∧ KdP x k t I R J B
theorem XK.step {x k z : Nat} {t : TT} {I : MI} {R : MR} {J : MI} {B : MR} (h : XK x k z t I R J B) (hk : k < 4) : XK x (k + 1) (z + 1 + 1) (va_up (va_up t z (2, 0)) (z + 1) (20, 10)) (up2 (up2 (zI I z) 100 z (nI k)) 102 z 50) (up2 (zR R z) 101 z (some (z + 1))) (va_up J (z + 1) (fun _ => 0)) (va_up B (x + 2) (va_up (B (x + 2)) k (some z))) := by
  obtain ⟨hz, hb, hp⟩ := h
  refine ⟨by omega, hb.ag (z := z) (by omega) (Ag.kd (k := k)) (va_up_ne _ _ (by omega)) (va_up_ne _ _ (by omega)), fun j hj => ?_⟩
  by_cases e : j = k
  · subst e
    have ez : xKd x j = z := by unfold xKd; omega
    rw [ez, va_up_self, va_up_self, va_up_ne _ _ (by omega), va_up_self, va_up_self, up2s, va_up_self, up2n (by decide), up2s, up2s]
    exact ⟨rfl, rfl, rfl, rfl, rfl, rfl, rfl⟩
  · refine hp.ag (z := z) (by omega) (Ag.kd (k := k)) (fun i hi => ?_) j (by omega)
    rw [va_up_self, va_up_ne _ _ (by omega)]
/-- p places done; in the next one, s stores made -/
def XP (x p z : Nat) (t : TT) (I : MI) (R : MR) (J : MI) (B : MR) : Prop := z = x + 23 + 13 * p ∧ IBase x t I R J B ∧ KdP x 4 t I R J B ∧ PlP x p t I B ∧ SoP x (4 * p) t I R B ∧ WyP x p J
def XS (x p k z : Nat) (t : TT) (I : MI) (R : MR) (J : MI) (B : MR) : Prop := z = x + 24 + 13 * p + 3 * k ∧ IBase x t I R J B ∧ KdP x 4 t I R J B ∧ PlP x (p + 1) t I B ∧ SoP x (4 * p + k) t I R B ∧ WyP x p J
theorem XP.step {x p z : Nat} {t : TT} {I : MI} {R : MR} {J : MI} {B : MR} (h : XP x p z t I R J B) (hp8 : p < 8) : XS x p 0 (z + 1) (va_up t z (6, 0)) (up2 (zI I z) 500 z (nI p)) (zR R z) J (va_up B (x + 1) (va_up (B (x + 1)) p (some z))) := by
  obtain ⟨hz, hb, hk, hp, hs, hw⟩ := h
  refine ⟨by omega, hb.ag (z := z) (by omega) Ag.pl (va_up_ne _ _ (by omega)) (va_up_ne _ _ (by omega)), hk.ag (z := z) (by omega) Ag.pl (fun j hj => by rw [va_up_ne _ _ (by omega)]), fun j hj => ?_, hs.ag (z := z) (by rw [if_pos (by omega)]; omega) (Ag.pl (J := J)) (fun j hj => by rw [va_up_ne _ _ (by omega)]), hw⟩
  by_cases e : j = p
  · subst e
    have ez : xPl x j = z := by unfold xPl; omega
    rw [ez, va_up_self, va_up_self, va_up_self, up2s, up2n (by decide), up2n (by decide), zI_self, zI_self]
    exact ⟨rfl, rfl, rfl, rfl, rfl⟩
  · refine hp.ag (z := z) (fun j hj => by unfold xPl; omega) (Ag.pl (J := J) (R := R)) (fun i hi => ?_) j (by omega)
    rw [va_up_self, va_up_ne _ _ (by omega)]
theorem XS.step {x p k z : Nat} {t : TT} {I : MI} {R : MR} {J : MI} {B : MR} (h : XS x p k z t I R J B) (hp8 : p < 8) (hk4 : k < 4) : XS x p (k + 1) (z + 1 + 2) (va_up (va_up (va_up t z (8, 0)) (z + 1) (10, 0)) (z + 1 + 1) (10, 0)) (zI (zI (up2 (zI I z) 700 z (nI (4 * p + k))) (z + 1)) (z + 1 + 1)) (up2 (zR (up2 (zR (up2 (up2 (zR R z) 701 z (some (xPl x p))) 702 z (some (xKd x k))) (z + 1)) 703 z (some (z + 1))) (z + 1 + 1)) 704 z (some (z + 1 + 1))) J (va_up B (x + 3) (va_up (B (x + 3)) (4 * p + k) (some z))) := by
  obtain ⟨hz, hb, hk, hp, hs, hw⟩ := h
  refine ⟨by omega, hb.ag (z := z) (by omega) Ag.so (va_up_ne _ _ (by omega)) (va_up_ne _ _ (by omega)), hk.ag (z := z) (by omega) Ag.so (fun j hj => by rw [va_up_ne _ _ (by omega)]), hp.ag (z := z) (fun j hj => by unfold xPl; omega) (Ag.so (R := R) (J := J) (rp := some (xPl x p)) (rk := some (xKd x k))) (fun j hj => by rw [va_up_ne _ _ (by omega)]), fun j hj => ?_, hw⟩
  by_cases e : j = 4 * p + k
  · have ez : xSo x j = z := by unfold xSo; omega
    rw [ez, e, show (4 * p + k) / 4 = p by omega, show (4 * p + k) % 4 = k by omega]
    refine ⟨by rw [va_up_self, va_up_self], by rw [va_up_ne _ _ (by omega), va_up_ne _ _ (by omega), va_up_self], by rw [zI_ne _ _ (by omega), zI_ne _ _ (by omega), up2s], ?_, ?_, ?_, by rw [up2s], by rw [va_up_ne _ _ (by omega), va_up_self], by rw [va_up_self], by rw [zI_ne _ _ (by omega), zI_ne _ _ (by omega), up2n (by decide), zI_self], by rw [zI_ne _ _ (by omega), zI_ne _ _ (by omega), up2n (by decide), zI_self], ?_, by rw [zI_ne _ _ (by omega), zI_self]⟩
    · rw [up2n (by decide), zR_ne _ _ (by omega), up2n (by decide), zR_ne _ _ (by omega), up2n (by decide), up2s]
    · rw [up2n (by decide), zR_ne _ _ (by omega), up2n (by decide), zR_ne _ _ (by omega), up2s]
    · rw [up2n (by decide), zR_ne _ _ (by omega), up2s]
    · rw [up2n (by decide), zR_ne _ _ (by omega), up2n (by decide), zR_ne _ _ (by omega), up2n (by decide), up2n (by decide), zR_self]
  · refine hs.ag (z := z) (by rw [show (4 * p + k) / 4 = p by omega, show (4 * p + k) % 4 = k by omega]; omega) (Ag.so (J := J) (v := nI (4 * p + k)) (rp := some (xPl x p)) (rk := some (xKd x k))) (fun i hi => ?_) j (by omega)
    rw [va_up_self, va_up_ne _ _ (by omega)]
theorem XS.ways {x p z : Nat} {t : TT} {I : MI} {R : MR} {J J' : MI} {B : MR} (h : XS x p 4 z t I R J B) (hp8 : p < 8) (hj : ∀ b, b ≠ x + 7 + p → J' b = J b) (hv : ∀ q, q < 8 → J' (x + 7 + p) q = 2) : XP x (p + 1) z t I R J' B := by
  obtain ⟨hz, hb, hk, hp, hs, hw⟩ := h
  refine ⟨by omega, hb.j (hj _ (by omega)), hk.j (fun a ha => hj a (by omega)), hp, hs, fun j q hjp hq => ?_⟩
  by_cases e : j = p
  · subst e
    exact hv q hq
  · rw [hj _ (by omega)]
    exact hw j q (by omega) hq
theorem lp_X11_ik {l : Launch} {D : va_G} {A : Nat → Prop} {x : Nat} {Φ : PP} (hA : ∀ q, x ≤ q → A q) (kk : ∀ (z : Nat) (t : TT) (I : MI) (R : MR) (J : MI) (B : MR), XK x 4 z t I R J B → V l D A (rmm 3 140 1550) mX11_init (KS D A 140 1550 Φ) 22 401 z t I R J B 89 [some (va_rf (some x)), none, none, none] []) : ∀ (n i z : Nat) (t : TT) (I : MI) (R : MR) (J : MI) (B : MR), i + n = 4 → XK x i z t I R J B → V l D A (rmm 3 140 1550) mX11_init (KS D A 140 1550 Φ) (14 + 2 * i) (349 + 13 * i) z t I R J B 64 [some (va_rf (some x)), some (.int (nI i)), none, none] [] := by
  intro n
  induction n with
  | zero =>
    intro i z t I R J B hin h
    have hi : i = 4 := by omega
    subst hi
    refine V_iload dX11_init_64 rfl ?_
    refine V_const dX11_init_65 ?_
    refine V_icmp_ge dX11_init_66 (fun hc66 => ?_) (fun hc66 => ?_)
    · exact V.sub (lsS (lsN (lsN (lsN ls0)))) (kk z t I R J B h)
    · exact absurd (show (4 : Int32) ≤ nI 4 from Int32.le_refl _) hc66
  | succ n ih =>
    intro i z t I R J B hin h
    have hz := h.1
    refine V_iload dX11_init_64 rfl ?_
    refine V_const dX11_init_65 ?_
    refine V_icmp_ge dX11_init_66 (fun hc66 => ?_) (fun hc66 => ?_)
    · exact absurd hc66 (show ¬ nI 4 ≤ nI i from nI_ge (by omega) (by decide))
    · refine V_aload dX11_init_69 rfl ?_
      refine V_getRs fk_X11_17 dX11_init_70 h.2.1.1 h.2.1.2.2.2.1.1 ?_
      refine V_iload dX11_init_73 rfl ?_
      refine V_new (c := 1) (N := 3) (by decide) rfl rfl ck_X11_15 wn_X1 wi_X1 (hA _ (by omega)) (by show _ ≤ 140; omega) (by show _ ≤ 1550; omega) dX11_init_74 ?_
      refine V_dupr dX11_init_77 ?_
      refine V_iload dX11_init_78 rfl ?_
      refine V_invI (As := [_]) mc_X1_init lk_X11_37 dX11_init_79 rfl rfl (Nat.le_of_ble_eq_true rfl) ⟨⟨by decide, by decide⟩, by show _ ≤ 140; omega, by show _ ≤ 1550; omega⟩ (sem_X1_init (by rw [va_up_self]) (by omega) (fun q hq => hA q (by omega)) ?_)
      refine V_aast (j := 1) dX11_init_82 rfl (by rw [va_up_ne _ _ (by omega), va_up_ne _ _ (by omega)]; exact h.2.1.2.2.2.1.2) (c := 1) (by rw [va_up_ne _ _ (by omega), va_up_self]) (by decide) ⟨rfl, by decide⟩ rfl (by omega) (by decide) ?_
      refine V_ii1 dX11_init_83 (by decide) (noL_r _) ?_
      refine V_goto dX11_init_86 ?_
      refine V.widen (k' := 14 + 2 * (i + 1)) (n' := 349 + 13 * (i + 1)) (by omega) (by omega) ?_
      exact V.sub (lsS (lsE (by rw [nI_1]) (lsN (lsN ls0)))) (ih (i + 1) _ _ _ _ _ _ (by omega) (h.step (by omega)))
theorem lp_X11_is {l : Launch} {D : va_G} {A : Nat → Prop} {x p : Nat} {Φ : PP} (hp8 : p < 8) (hA : ∀ q, x ≤ q → A q) (kk : ∀ (z : Nat) (t : TT) (I : MI) (R : MR) (J : MI) (B : MR), XS x p 4 z t I R J B → V l D A (rmm 3 140 1550) mX11_init (KS D A 140 1550 Φ) (35 + 13 * p) (452 + 51 * p) z t I R J B 156 [some (va_rf (some x)), some (.int (nI p)), none, none] []) : ∀ (n i z : Nat) (t : TT) (I : MI) (R : MR) (J : MI) (B : MR), i + n = 4 → XS x p i z t I R J B → V l D A (rmm 3 140 1550) mX11_init (KS D A 140 1550 Φ) (23 + 13 * p + 3 * i) (404 + 51 * p + 12 * i) z t I R J B 113 [some (va_rf (some x)), some (.int (nI p)), some (.int (nI i)), none] [] := by
  intro n
  induction n with
  | zero =>
    intro i z t I R J B hin h
    have hi : i = 4 := by omega
    subst hi
    refine V_iload dX11_init_113 rfl ?_
    refine V_const dX11_init_114 ?_
    refine V_icmp_ge dX11_init_115 (fun hc115 => ?_) (fun hc115 => ?_)
    · refine V.widen (k' := 35 + 13 * p) (n' := 452 + 51 * p) (by omega) (by omega) ?_
      exact V.sub (lsS (lsS (lsN (lsN ls0)))) (kk z t I R J B h)
    · exact absurd (show (4 : Int32) ≤ nI 4 from Int32.le_refl _) hc115
  | succ n ih =>
    intro i z t I R J B hin h
    have hz := h.1
    have hb := h.2.1
    have hi4 : i < 4 := by omega
    have ew : nI p * 4 + nI i = nI (4 * p + i) := by
      apply Int32.toInt_inj.mp
      rw [Int32.toInt_add, Int32.toInt_mul, nI_toInt (by omega), nI_toInt (by omega), nI_toInt (by omega), show (4 : Int32).toInt = 4 from rfl]
      simp only [Int.bmod_def]
      omega
    refine V_iload dX11_init_113 rfl ?_
    refine V_const dX11_init_114 ?_
    refine V_icmp_ge dX11_init_115 (fun hc115 => ?_) (fun hc115 => ?_)
    · exact absurd hc115 (show ¬ nI 4 ≤ nI i from nI_ge (by omega) (by decide))
    · refine V_iload dX11_init_118 rfl ?_
      refine V_const dX11_init_119 ?_
      refine V_imul dX11_init_120 ?_
      refine V_iload dX11_init_121 rfl ?_
      refine V_iadd dX11_init_122 ?_
      rw [ew]
      refine V_is3 dX11_init_123 (by decide) (noL_i _) ?_
      refine V_aload dX11_init_124 rfl ?_
      refine V_getRs fk_X11_23 dX11_init_125 hb.1 hb.2.2.2.2.1.1 ?_
      refine V_iload dX11_init_128 rfl ?_
      refine V_new (c := 7) (N := 8) (by decide) rfl rfl ck_X11_21 wn_X7 wi_X7 (hA _ (by omega)) (by show _ ≤ 140; omega) (by show _ ≤ 1550; omega) dX11_init_129 ?_
      refine V_dupr dX11_init_132 ?_
      refine V_iload dX11_init_133 rfl ?_
      refine V_aload dX11_init_134 rfl ?_
      refine V_getRs fk_X11_11 dX11_init_135 (by rw [va_up_ne _ _ (by omega)]; exact hb.1) ((zR_ne _ _ (by omega)).trans hb.2.2.1.1) ?_
      refine V_iload dX11_init_138 rfl ?_
      refine V_aalds (j := 0) dX11_init_139 rfl (by decide) (by rw [va_up_ne _ _ (by omega)]; exact hb.2.2.1.2) rfl hp8 (by decide) (h.2.2.2.1 p (by omega)).1 ?_
      refine V_aload dX11_init_140 rfl ?_
      refine V_getRs fk_X11_17 dX11_init_141 (by rw [va_up_ne _ _ (by omega)]; exact hb.1) ((zR_ne _ _ (by omega)).trans hb.2.2.2.1.1) ?_
      refine V_iload dX11_init_144 rfl ?_
      refine V_aalds (j := 1) dX11_init_145 rfl (by decide) (by rw [va_up_ne _ _ (by omega)]; exact hb.2.2.2.1.2) rfl hi4 (by decide) (h.2.2.1 i hi4).1 ?_
      refine V_invI (As := [_, _, _]) mc_X7_init lk_X11_41 dX11_init_146 rfl rfl (Nat.le_of_ble_eq_true rfl) ⟨⟨by decide, by decide⟩, by show _ ≤ 140; omega, by show _ ≤ 1550; omega⟩ (sem_X7_init (by rw [va_up_self]) (by omega) (fun q hq => hA q (by omega)) ?_)
      refine V_aast (j := 2) dX11_init_149 rfl (by rw [va_up_ne _ _ (by omega), va_up_ne _ _ (by omega), va_up_ne _ _ (by omega)]; exact hb.2.2.2.2.1.2) (c := 7) (by rw [va_up_ne _ _ (by omega), va_up_ne _ _ (by omega), va_up_self]) (by decide) ⟨rfl, by decide⟩ rfl (by omega) (by decide) ?_
      refine V_ii2 dX11_init_150 (by decide) (noL_i _) ?_
      refine V_goto dX11_init_153 ?_
      refine V.widen (k' := 23 + 13 * p + 3 * (i + 1)) (n' := 404 + 51 * p + 12 * (i + 1)) (by omega) (by omega) ?_
      exact V.sub (lsS (lsS (lsE (by rw [nI_1]) (lsN ls0)))) (ih (i + 1) _ _ _ _ _ _ (by omega) (h.step hp8 (by omega)))
theorem lp_X11_iw {l : Launch} {D : va_G} {A : Nat → Prop} {z : Nat} {t : TT} {I : MI} {R : MR} {B : MR} {x p : Nat} {J0 : MI} {Φ : PP} (hp8 : p < 8) (hb : IBase x t I R J0 B) (kk : ∀ J2 : MI, (∀ b, b ≠ x + 7 + p → J2 b = J0 b) → (∀ q, q < 8 → J2 (x + 7 + p) q = 2) → V l D A (rmm 3 140 1550) mX11_init (KS D A 140 1550 Φ) (35 + 13 * p) (452 + 51 * p) z t I R J2 B 179 [some (va_rf (some x)), some (.int (nI p)), none, none] []) : ∀ (n i : Nat) (J : MI), i + n = 8 → (∀ b, b ≠ x + 7 + p → J b = J0 b) → (∀ q, q < i → J (x + 7 + p) q = 2) → V l D A (rmm 3 140 1550) mX11_init (KS D A 140 1550 Φ) (35 + 13 * p) (452 + 51 * p) z t I R J B 158 [some (va_rf (some x)), some (.int (nI p)), some (.int (nI i)), none] [] := by
  intro n
  induction n with
  | zero =>
    intro i J hin hf hl
    have hi : i = 8 := by omega
    subst hi
    refine V_iload dX11_init_158 rfl ?_
    refine V_const dX11_init_159 ?_
    refine V_icmp_ge dX11_init_161 (fun hc161 => ?_) (fun hc161 => ?_)
    · exact V.sub (lsS (lsS (lsN (lsN ls0)))) (kk J hf hl)
    · exact absurd (show (8 : Int32) ≤ nI 8 from Int32.le_refl _) hc161
  | succ n ih =>
    intro i J hin hf hl
    refine V_iload dX11_init_158 rfl ?_
    refine V_const dX11_init_159 ?_
    refine V_icmp_ge dX11_init_161 (fun hc161 => ?_) (fun hc161 => ?_)
    · exact absurd hc161 (show ¬ nI 8 ≤ nI i from nI_ge (by omega) (by decide))
    · refine V_aload dX11_init_164 rfl ?_
      refine V_getRs fk_X11_34 dX11_init_165 hb.1 hb.2.2.2.2.2.2.2.1.1 ?_
      refine V_iload dX11_init_168 rfl ?_
      refine V_aalds (j := 5) dX11_init_169 rfl (by decide) hb.2.2.2.2.2.2.2.1.2 rfl hp8 (by decide) (hb.2.2.2.2.2.2.2.2 p hp8).1 ?_
      refine V_iload dX11_init_170 rfl ?_
      refine V_const dX11_init_171 ?_
      refine V_iast dX11_init_172 (hb.2.2.2.2.2.2.2.2 p hp8).2 rfl (by omega) (by decide) ?_
      refine V_ii2 dX11_init_173 (by decide) (noL_i _) ?_
      refine V_goto dX11_init_176 ?_
      exact V.sub (lsS (lsS (lsE (by rw [nI_1]) (lsN ls0)))) (ih (i + 1) _ (by omega) (fun b hb9 => (up2_ne _ _ _ hb9).trans (hf b hb9)) (fun j hj => by by_cases e : j = i <;> first | (subst e; exact up2s) | (rw [up2o e]; exact hl j (by omega))))
theorem lp_X11_ip {l : Launch} {D : va_G} {A : Nat → Prop} {x : Nat} {Φ : PP} (hA : ∀ q, x ≤ q → A q) (kk : ∀ (z : Nat) (t : TT) (I : MI) (R : MR) (J : MI) (B : MR), XP x 8 z t I R J B → V l D A (rmm 3 140 1550) mX11_init (KS D A 140 1550 Φ) 126 809 z t I R J B 185 [some (va_rf (some x)), none, none, none] []) : ∀ (n i z : Nat) (t : TT) (I : MI) (R : MR) (J : MI) (B : MR), i + n = 8 → XP x i z t I R J B → V l D A (rmm 3 140 1550) mX11_init (KS D A 140 1550 Φ) (22 + 13 * i) (401 + 51 * i) z t I R J B 91 [some (va_rf (some x)), some (.int (nI i)), none, none] [] := by
  intro n
  induction n with
  | zero =>
    intro i z t I R J B hin h
    have hi : i = 8 := by omega
    subst hi
    refine V_iload dX11_init_91 rfl ?_
    refine V_const dX11_init_92 ?_
    refine V_icmp_ge dX11_init_94 (fun hc94 => ?_) (fun hc94 => ?_)
    · exact V.sub (lsS (lsN (lsN (lsN ls0)))) (kk z t I R J B h)
    · exact absurd (show (8 : Int32) ≤ nI 8 from Int32.le_refl _) hc94
  | succ n ih =>
    intro i z t I R J B hin h
    have hz := h.1
    have hb := h.2.1
    have hi8 : i < 8 := by omega
    refine V_iload dX11_init_91 rfl ?_
    refine V_const dX11_init_92 ?_
    refine V_icmp_ge dX11_init_94 (fun hc94 => ?_) (fun hc94 => ?_)
    · exact absurd hc94 (show ¬ nI 8 ≤ nI i from nI_ge (by omega) (by decide))
    · refine V_aload dX11_init_97 rfl ?_
      refine V_getRs fk_X11_11 dX11_init_98 hb.1 hb.2.2.1.1 ?_
      refine V_iload dX11_init_101 rfl ?_
      refine V_new (c := 5) (N := 3) (by decide) rfl rfl ck_X11_9 wn_X5 wi_X5 (hA _ (by omega)) (by show _ ≤ 140; omega) (by show _ ≤ 1550; omega) dX11_init_102 ?_
      refine V_dupr dX11_init_105 ?_
      refine V_iload dX11_init_106 rfl ?_
      refine V_invI (As := [_]) mc_X5_init lk_X11_40 dX11_init_107 rfl rfl (Nat.le_of_ble_eq_true rfl) ⟨⟨by decide, by decide⟩, by show _ ≤ 140; omega, by show _ ≤ 1550; omega⟩ (sem_X5_init (by rw [va_up_self]) ?_)
      refine V_aast (j := 0) dX11_init_110 rfl (by rw [va_up_ne _ _ (by omega)]; exact hb.2.2.1.2) (c := 5) (by rw [va_up_self]) (by decide) ⟨rfl, by decide⟩ rfl (by omega) (by decide) ?_
      refine V_const dX11_init_111 ?_
      refine V_is2 dX11_init_112 (by decide) (noL_i _) ?_
      refine V.widen (k' := 23 + 13 * i + 3 * 0) (n' := 404 + 51 * i + 12 * 0) (by omega) (by omega) ?_
      refine V.sub (lsS (lsS (lsE (by rfl) (lsN ls0)))) (lp_X11_is hi8 hA (fun z2 t2 I2 R2 J2 B2 h2 => ?_) 4 0 _ _ _ _ _ _ rfl (h.step hi8))
      refine V_const dX11_init_156 ?_
      refine V_is2 dX11_init_157 (by decide) (noL_i _) ?_
      refine V.sub (lsS (lsS (lsE (by rfl) (lsN ls0)))) (lp_X11_iw hi8 h2.2.1 (fun J3 hf hv => ?_) 8 0 _ rfl (fun _ _ => rfl) (fun q hq => absurd hq (Nat.not_lt_zero q)))
      refine V_ii1 dX11_init_179 (by decide) (noL_r _) ?_
      refine V_goto dX11_init_182 ?_
      refine V.widen (k' := 22 + 13 * (i + 1)) (n' := 401 + 51 * (i + 1)) (by omega) (by omega) ?_
      exact V.sub (lsS (lsE (by rw [nI_1]) (lsN (lsN ls0)))) (ih (i + 1) _ _ _ _ _ _ (by omega) (h2.ways hi8 hf hv))
