-- MAKING: rows of rows; the small constructors
theorem vr_outer (c : ClassId) (N h0 : Nat) : ∀ i : Nat, Jvm.Free.Multi.outerC c N h0 i = arrV c N (fun j => va_rf (if j < i then some (h0 + 1 + j) else none))
  | 0 => by
    show ({ cls := c, slots := Array.replicate N .null, vm := .none } : Cell) = _
    rw [arrV_new]
    refine congrArg (arrV c N) (funext fun j => ?_)
    simp [va_rf]
  | i + 1 => by
    show (Jvm.Free.Multi.outerC c N h0 i).setSlot i (.ref (h0 + 1 + i)) = _
    rw [vr_outer c N h0 i, arrV_store]
    refine congrArg (arrV c N) (funext fun j => ?_)
    by_cases e : j = i
    · subst e
      simp [updV, va_rf]
    · by_cases h : j < i
      · simp [updV, e, h, Nat.lt_succ_of_lt h]
      · simp [updV, e, h, show ¬ j < i + 1 by omega]
def mnT (t : TT) (z N M : Nat) : TT := fun a => if a = z then (26, N) else if z < a ∧ a < z + 1 + N then (20, M) else t a
def mnJ (J : MI) (z N : Nat) : MI := fun a => if z < a ∧ a < z + 1 + N then fun _ => 0 else J a
def mnB (B : MR) (z N : Nat) : MR := va_up B z (fun i => if i < N then some (z + 1 + i) else none)
section MNA
variable {l : Launch} {D : va_G} {A : Nat → Prop} {Rm : Room} {μ : Meth} {K : Kx} {k n z : Nat} {t : TT} {I : MI} {R : MR} {J : MI} {B : MR} {pc pc' : Nat} {lv : List (Option Value)} {st : List Value}
theorem V_mna {x y : Int32} {N M idx : Nat} (w : Cond.classLink μ.1.cls idx "[[I" ∈ gtb) (w2 : Cond.arrayClass .int ∈ gtb) (hx : x = nI N) (hy : y = nI M) (hN : N < 100000000) (hM : M < 100000000) (hA : ∀ q, z ≤ q → A q) (h1 : k + (1 + N) ≤ Rm.cells) (h2 : n + (N + N * M) ≤ Rm.slots) (d : decode μ.2.1 pc = .ok (.multianewarray idx 2, 4))
    (kk : V l D A Rm μ K (k + 1 + N) (n + N + N * M) (z + 1 + N) (mnT t z N M) I R (mnJ J z N) (mnB B z N) (pc + 4) lv (va_rf (some z) :: st)) : V l D A Rm μ K k n z t I R J B pc lv (.int y :: .int x :: st) := by
  intro p e s m args below meth cd C X H locs ls hR hS hl
  have hts := C.2.2.2.2.2.1
  have hXt := C.2.2.2.2.2.2.2.2
  have hover : (Cond.arrayOver (.array .int)).before args s = true := hXt.2.2.2.2.2.2
  have hcN : x.toNatClampNeg = N := by rw [hx]; exact nI_clamp (by omega)
  have hcM : y.toNatClampNeg = M := by rw [hy]; exact nI_clamp (by omega)
  have hnx : ¬ x < 0 := by rw [hx]; exact nI_pos (by omega)
  have hny : ¬ y < 0 := by rw [hy]; exact nI_pos (by omega)
  have hz := hR.2.1
  clear hx hy
  subst hcN
  subst hcM
  intro T hT Xs
  obtain ⟨vm₁, cA, comp, -, fA, fC, hO, hI, X', step⟩ := Xs.multianewarray2F C.1 C.2.2.2.2.1 (hts _ w) hover (hts _ w2) (g := F0 m pc ls (.int y :: .int x :: st)) rfl (by rw [C.2.1]; exact d) rfl hnx hny (by omega) (by show y.toNatClampNeg * 4 ≤ 536870912; omega) (by omega) rfl rfl h1 h2
  generalize hF : Jvm.Free.Multi.fill (T.setVm vm₁) cA comp x.toNatClampNeg y.toNatClampNeg (defaultValue .int) x.toNatClampNeg = F at X' step
  have hTh : (T.setVm vm₁).heap = H := hT
  obtain ⟨f1, f2, -, -⟩ := Jvm.Free.Multi.fill_facts (T.setVm vm₁) cA comp x.toNatClampNeg y.toNatClampNeg (defaultValue .int) x.toNatClampNeg
  rw [hF, hTh] at f1 f2
  have hold : ∀ a : Nat, a < H.size → F.heap[a]? = H[a]? := fun a ha => by
    have := Jvm.Free.Multi.fill_old (T.setVm vm₁) cA comp x.toNatClampNeg y.toNatClampNeg (defaultValue .int) (a := a) (by rw [hTh]; exact ha) x.toNatClampNeg
    rw [hF, hTh] at this
    exact this
  have hrow : ∀ j : Nat, j < x.toNatClampNeg → F.heap[H.size + 1 + j]? = some (vp_cell comp (y.toNatClampNeg, .inl (fun _ => 0))) := fun j hj => by
    have := Jvm.Free.Multi.fill_inner (T.setVm vm₁) cA comp x.toNatClampNeg y.toNatClampNeg (defaultValue .int) x.toNatClampNeg j hj
    rw [hF, hTh] at this
    rw [this, vp_cell_i]
    exact congrArg some (arrV_new comp y.toNatClampNeg (.int 0))
  rw [vr_outer] at f2
  obtain ⟨comp2, c2, k2, g1, g2, g3, g4, g5⟩ := arrayOver_specB hover
  have ec : some c2 = some cA := g5.symm.trans fA
  cases ec
  have hAr : ArrOfT s cA (rty 5) := fun N9 z9 => by
    obtain ⟨-, k9, hk9, cm9, hkk9⟩ := (hO 0 0 0).1
    exact ⟨(fun q hq => by cases hq), k9, hk9, cm9, hkk9⟩
  have hAi : ArrOfT s comp .int := fun N9 z9 => by
    obtain ⟨-, k9, hk9, cm9, hkk9⟩ := (hI 0 (.int 0)).1
    exact ⟨(fun q hq => by cases hq), k9, hk9, cm9, hkk9⟩
  rw [hz] at f1 f2 hold hrow
  have hR2 : Rep D A s (z + 1 + x.toNatClampNeg) (mnT t z x.toNatClampNeg y.toNatClampNeg) I R (mnJ J z x.toNatClampNeg) (mnB B z x.toNatClampNeg) F.heap := by
    refine ⟨hR.1, by omega, fun a ha => ?_⟩
    by_cases e1 : a = z
    · subst e1
      refine ⟨⟨hA a (Nat.le_refl _), by omega⟩, ?_⟩
      rw [show mnT t a x.toNatClampNeg y.toNatClampNeg a = (26, x.toNatClampNeg) from if_pos rfl, show mnB B a x.toNatClampNeg a = _ from va_up_self _ _ _]
      refine ⟨fun c' h1 h2 => by have h1 : 26 = c' + 1 := h1; omega, fun h => by have h : 26 = 20 := h; omega, fun j' h h3 => ?_⟩
      have h : 26 = 21 + j' := h
      have ej : j' = 5 := by omega
      subst ej
      refine ⟨cA, ⟨hAr, fA, fun _ => ⟨k2, comp2, g3, g4, g1⟩⟩, ?_⟩
      rw [vp_cell_q]
      exact f2
    · by_cases e2 : z < a ∧ a < z + 1 + x.toNatClampNeg
      · refine ⟨⟨hA a (by omega), e2.2⟩, ?_⟩
        rw [show mnT t z x.toNatClampNeg y.toNatClampNeg a = (20, y.toNatClampNeg) by unfold mnT; rw [if_neg e1, if_pos e2], show mnJ J z x.toNatClampNeg a = (fun _ => 0) from if_pos e2]
        refine ⟨fun c' h1 h2 => by have h1 : 20 = c' + 1 := h1; omega, fun h => ⟨comp, ⟨hAi, fC⟩, ?_⟩, fun j h => by have h : 20 = 21 + j := h; omega⟩
        have := hrow (a - (z + 1)) (by omega)
        rw [show z + 1 + (a - (z + 1)) = a by omega] at this
        exact this
      · have et : mnT t z x.toNatClampNeg y.toNatClampNeg a = t a := by unfold mnT; rw [if_neg e1, if_neg e2]
        rw [et] at ha ⊢
        obtain ⟨⟨b1, b2⟩, b3⟩ := hR.2.2 a ha
        rw [show mnJ J z x.toNatClampNeg a = J a from if_neg e2, show mnB B z x.toNatClampNeg a = B a from va_up_ne _ _ e1]
        exact ⟨⟨b1, by omega⟩, b3.kept (hold a b2)⟩
  obtain ⟨tt, a1, b1⟩ := kk p e s m args below meth cd C X F.heap locs ls hR2 ⟨by have := hS.1; omega, fun a h1 h2 => (hold a (by have := hS.1; omega)).trans (hS.2.1 a h1 h2), hS.2.2⟩ hl F rfl X'
  refine ⟨tt, step tt ?_, b1⟩
  have e : T.heap.size = z := by rw [hT]; exact hz
  rw [e]
  exact a1
end MNA

theorem sem_X9_init {l : Launch} {D : va_G} {A : Nat → Prop} {z : Nat} {t : TT} {I : MI} {R : MR} {J : MI} {B : MR} {o : Nat} {Φ : PP}  (q : Φ none z t I R J B) : Sem l D A 1 0 0 mX9_init [va_rf (some o)] z t I R J B Φ := by
  refine Sem.run [some (va_rf (some o))] (by decide) rfl (ent_r ent_nil) ?_
  refine V_aload dX9_init_0 rfl ?_
  refine V_objInit dX9_init_1 lk_X9_1 w_oi1 w_oi2 (by decide) (by decide) (Nat.le_of_ble_eq_true rfl) ?_
  exact V_vret dX9_init_4 rfl (by decide) (by decide) q
theorem sem_X5_init {l : Launch} {D : va_G} {A : Nat → Prop} {z : Nat} {t : TT} {I : MI} {R : MR} {J : MI} {B : MR} {o : Nat} {v : Int32} {Φ : PP} (ho : (t o).1 = 6) (q : Φ none z t (up2 I 500 o v) R J B) : Sem l D A 1 0 0 mX5_init [va_rf (some o), .int v] z t I R J B Φ := by
  refine Sem.run [some (va_rf (some o)), some (.int v)] (by decide) rfl (ent_r (ent_i ent_nil)) ?_
  refine V_aload dX5_init_0 rfl ?_
  refine V_objInit dX5_init_1 lk_X5_3 w_oi1 w_oi2 (by decide) (by decide) (Nat.le_of_ble_eq_true rfl) ?_
  refine V_aload dX5_init_4 rfl ?_
  refine V_iload dX5_init_5 rfl ?_
  refine V_putI fk_X5_9 (Or.inr ⟨rfl, rfl, rfl⟩) rfl rfl dX5_init_6 (by assumption) ?_
  exact V_vret dX5_init_9 rfl (by decide) (by decide) q
theorem sem_X6_init {l : Launch} {D : va_G} {A : Nat → Prop} {z : Nat} {t : TT} {I : MI} {R : MR} {J : MI} {B : MR} {o : Nat} {r : Option Nat} {Φ : PP} (ho : (t o).1 = 7) (q : Φ none z t I (up2 R 600 o r) J B) : Sem l D A 1 0 0 mX6_init [va_rf (some o), va_rf r] z t I R J B Φ := by
  refine Sem.run [some (va_rf (some o)), some (va_rf r)] (by decide) rfl (ent_r (ent_r ent_nil)) ?_
  refine V_aload dX6_init_0 rfl ?_
  refine V_objInit dX6_init_1 lk_X6_3 w_oi1 w_oi2 (by decide) (by decide) (Nat.le_of_ble_eq_true rfl) ?_
  refine V_aload dX6_init_4 rfl ?_
  refine V_aload dX6_init_5 rfl ?_
  refine V_putR fk_X6_9 (Or.inr ⟨rfl, rfl, rfl⟩) (fun v => by cases v <;> rfl) (fun v => by cases v <;> rfl) dX6_init_6 (by assumption) ?_
  exact V_vret dX6_init_9 rfl (by decide) (by decide) q
theorem sem_X1_init {l : Launch} {D : va_G} {A : Nat → Prop} {z : Nat} {t : TT} {I : MI} {R : MR} {J : MI} {B : MR} {o : Nat} {v : Int32} {Φ : PP} (ho : (t o).1 = 2) (hoz : o < z) (hA : ∀ q, z ≤ q → A q) (q : Φ none (z + 1) (va_up t z (20, 10)) (up2 (up2 I 100 o v) 102 o 50) (up2 R 101 o (some z)) (va_up J z (fun _ => 0)) B) : Sem l D A 1 1 10 mX1_init [va_rf (some o), .int v] z t I R J B Φ := by
  refine Sem.run [some (va_rf (some o)), some (.int v)] (by decide) rfl (ent_r (ent_i ent_nil)) ?_
  refine V_aload dX1_init_0 rfl ?_
  refine V_objInit dX1_init_1 lk_X1_3 w_oi1 w_oi2 (by decide) (by decide) (Nat.le_of_ble_eq_true rfl) ?_
  refine V_aload dX1_init_4 rfl ?_
  refine V_iload dX1_init_5 rfl ?_
  refine V_putI fk_X1_9 (Or.inr ⟨rfl, rfl, rfl⟩) rfl rfl dX1_init_6 (by assumption) ?_
  refine V_aload dX1_init_9 rfl ?_
  refine V_const dX1_init_10 ?_
  refine V_newa w_arr rfl (by decide) (hA _ (by omega)) (by decide) (by decide) dX1_init_12 ?_
  refine V_putR fk_X1_15 (Or.inr ⟨rfl, rfl, rfl⟩) (fun v => by cases v <;> rfl) (fun v => by cases v <;> rfl) dX1_init_14 (by rw [va_up_ne _ _ (by omega)]; exact ho) ?_
  refine V_aload dX1_init_17 rfl ?_
  refine V_const dX1_init_18 ?_
  refine V_putI fk_X1_19 (Or.inl rfl) rfl rfl dX1_init_20 (by rw [va_up_ne _ _ (by omega)]; exact ho) ?_
  exact V_vret dX1_init_23 rfl (by decide) (by decide) q
theorem sem_X2_init {l : Launch} {D : va_G} {A : Nat → Prop} {z : Nat} {t : TT} {I : MI} {R : MR} {J : MI} {B : MR} {o : Nat} {Φ : PP} (ho : (t o).1 = 3) (hoz : o < z) (hA : ∀ q, z ≤ q → A q) (q : Φ none (z + 2) (va_up (va_up t z (20, 40)) (z + 1) (20, 40)) I (up2 (up2 R 200 o (some z)) 201 o (some (z + 1))) (va_up (va_up J z (fun _ => 0)) (z + 1) (fun _ => 0)) B) : Sem l D A 1 2 80 mX2_init [va_rf (some o)] z t I R J B Φ := by
  refine Sem.run [some (va_rf (some o))] (by decide) rfl (ent_r ent_nil) ?_
  refine V_aload dX2_init_0 rfl ?_
  refine V_objInit dX2_init_1 lk_X2_3 w_oi1 w_oi2 (by decide) (by decide) (Nat.le_of_ble_eq_true rfl) ?_
  refine V_aload dX2_init_4 rfl ?_
  refine V_const dX2_init_5 ?_
  refine V_newa w_arr rfl (by decide) (hA _ (by omega)) (by decide) (by decide) dX2_init_7 ?_
  refine V_putR fk_X2_9 (Or.inr ⟨rfl, rfl, rfl⟩) (fun v => by cases v <;> rfl) (fun v => by cases v <;> rfl) dX2_init_9 (by rw [va_up_ne _ _ (by omega)]; exact ho) ?_
  refine V_aload dX2_init_12 rfl ?_
  refine V_const dX2_init_13 ?_
  refine V_newa w_arr rfl (by decide) (hA _ (by omega)) (by decide) (by decide) dX2_init_15 ?_
  refine V_putR fk_X2_15 (Or.inr ⟨rfl, rfl, rfl⟩) (fun v => by cases v <;> rfl) (fun v => by cases v <;> rfl) dX2_init_17 (by rw [va_up_ne _ _ (by omega), va_up_ne _ _ (by omega)]; exact ho) ?_
  exact V_vret dX2_init_20 rfl (by decide) (by decide) q
theorem sem_X4_init {l : Launch} {D : va_G} {A : Nat → Prop} {z : Nat} {t : TT} {I : MI} {R : MR} {J : MI} {B : MR} {o : Nat} {Φ : PP} (ho : (t o).1 = 5) (hoz : o < z) (hA : ∀ q, z ≤ q → A q) (q : Φ none (z + 1) (va_up t z (24, 300)) I (up2 R 400 o (some z)) J (va_up B z (fun _ => none))) : Sem l D A 1 1 300 mX4_init [va_rf (some o)] z t I R J B Φ := by
  refine Sem.run [some (va_rf (some o))] (by decide) rfl (ent_r ent_nil) ?_
  refine V_aload dX4_init_0 rfl ?_
  refine V_objInit dX4_init_1 lk_X4_3 w_oi1 w_oi2 (by decide) (by decide) (Nat.le_of_ble_eq_true rfl) ?_
  refine V_aload dX4_init_4 rfl ?_
  refine V_const dX4_init_5 ?_
  refine V_newq (j := 3) (by decide) rfl rfl ck_X4_9 rfl (by decide) (hA _ (by omega)) (by decide) (by decide) dX4_init_8 ?_
  refine V_putR fk_X4_11 (Or.inr ⟨rfl, rfl, rfl⟩) (fun v => by cases v <;> rfl) (fun v => by cases v <;> rfl) dX4_init_11 (by rw [va_up_ne _ _ (by omega)]; exact ho) ?_
  exact V_vret dX4_init_14 rfl (by decide) (by decide) q
theorem sem_X10_init {l : Launch} {D : va_G} {A : Nat → Prop} {z : Nat} {t : TT} {I : MI} {R : MR} {J : MI} {B : MR} {o : Nat} {Φ : PP} (ho : (t o).1 = 11) (hoz : o < z) (hA : ∀ q, z ≤ q → A q) (q : Φ none (z + 1) (va_up t z (20, 200)) I (up2 R 1000 o (some z)) (va_up J z (fun _ => 0)) B) : Sem l D A 1 1 200 mX10_init [va_rf (some o)] z t I R J B Φ := by
  refine Sem.run [some (va_rf (some o))] (by decide) rfl (ent_r ent_nil) ?_
  refine V_aload dX10_init_0 rfl ?_
  refine V_objInit dX10_init_1 lk_X10_3 w_oi1 w_oi2 (by decide) (by decide) (Nat.le_of_ble_eq_true rfl) ?_
  refine V_aload dX10_init_4 rfl ?_
  refine V_const dX10_init_5 ?_
  refine V_newa w_arr rfl (by decide) (hA _ (by omega)) (by decide) (by decide) dX10_init_8 ?_
  refine V_putR fk_X10_9 (Or.inr ⟨rfl, rfl, rfl⟩) (fun v => by cases v <;> rfl) (fun v => by cases v <;> rfl) dX10_init_10 (by rw [va_up_ne _ _ (by omega)]; exact ho) ?_
  exact V_vret dX10_init_13 rfl (by decide) (by decide) q
theorem sem_X7_init {l : Launch} {D : va_G} {A : Nat → Prop} {z : Nat} {t : TT} {I : MI} {R : MR} {J : MI} {B : MR} {o : Nat} {v : Int32} {rp rk : Option Nat} {Φ : PP} (ho : (t o).1 = 8) (hoz : o < z) (hA : ∀ q, z ≤ q → A q) (q : Φ none (z + 2) (va_up (va_up t z (10, 0)) (z + 1) (10, 0)) (zI (zI (up2 I 700 o v) z) (z + 1)) (up2 (zR (up2 (zR (up2 (up2 R 701 o rp) 702 o rk) z) 703 o (some z)) (z + 1)) 704 o (some (z + 1))) J B) : Sem l D A 2 2 4 mX7_init [va_rf (some o), .int v, va_rf rp, va_rf rk] z t I R J B Φ := by
  refine Sem.run [some (va_rf (some o)), some (.int v), some (va_rf rp), some (va_rf rk)] (by decide) rfl (ent_r (ent_i (ent_r (ent_r ent_nil)))) ?_
  refine V_aload dX7_init_0 rfl ?_
  refine V_objInit dX7_init_1 lk_X7_3 w_oi1 w_oi2 (by decide) (by decide) (Nat.le_of_ble_eq_true rfl) ?_
  refine V_aload dX7_init_4 rfl ?_
  refine V_iload dX7_init_5 rfl ?_
  refine V_putI fk_X7_9 (Or.inr ⟨rfl, rfl, rfl⟩) rfl rfl dX7_init_6 (by assumption) ?_
  refine V_aload dX7_init_9 rfl ?_
  refine V_aload dX7_init_10 rfl ?_
  refine V_putR fk_X7_15 (Or.inr ⟨rfl, rfl, rfl⟩) (fun v => by cases v <;> rfl) (fun v => by cases v <;> rfl) dX7_init_11 (by assumption) ?_
  refine V_aload dX7_init_14 rfl ?_
  refine V_aload dX7_init_15 rfl ?_
  refine V_putR fk_X7_19 (Or.inr ⟨rfl, rfl, rfl⟩) (fun v => by cases v <;> rfl) (fun v => by cases v <;> rfl) dX7_init_16 (by assumption) ?_
  refine V_aload dX7_init_19 rfl ?_
  refine V_new (c := 9) (by decide) rfl rfl ck_X7_23 wn_X9 wi_X9 (hA _ (by omega)) (by decide) (by decide) dX7_init_20 ?_
  refine V_dupr dX7_init_23 ?_
  refine V_invIN (As := []) (host := "FleetStores") mc_X9_init (by decide +kernel) dX7_init_24 rfl rfl (Nat.le_of_ble_eq_true rfl) ⟨⟨by decide, by decide⟩, by decide, by decide⟩ (sem_X9_init ?_)
  refine V_putR fk_X7_26 (Or.inr ⟨rfl, rfl, rfl⟩) (fun v => by cases v <;> rfl) (fun v => by cases v <;> rfl) dX7_init_27 (by rw [va_up_ne _ _ (by omega)]; exact ho) ?_
  refine V_aload dX7_init_30 rfl ?_
  refine V_new (c := 9) (by decide) rfl rfl ck_X7_23 wn_X9 wi_X9 (hA _ (by omega)) (by decide) (by decide) dX7_init_31 ?_
  refine V_dupr dX7_init_34 ?_
  refine V_invIN (As := []) (host := "FleetStores") mc_X9_init (by decide +kernel) dX7_init_35 rfl rfl (Nat.le_of_ble_eq_true rfl) ⟨⟨by decide, by decide⟩, by decide, by decide⟩ (sem_X9_init ?_)
  refine V_putR fk_X7_30 (Or.inr ⟨rfl, rfl, rfl⟩) (fun v => by cases v <;> rfl) (fun v => by cases v <;> rfl) dX7_init_38 (by rw [va_up_ne _ _ (by omega), va_up_ne _ _ (by omega)]; exact ho) ?_
  exact V_vret dX7_init_41 rfl (by decide) (by decide) q
