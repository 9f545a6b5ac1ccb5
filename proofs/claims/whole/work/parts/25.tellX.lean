-- WHAT THE CLASS TELLS: lots, stocks, books
/-- what is told of a lot -/
def ltF (I : MI) (o s : Nat) : Nat → Int32 := fun i => match i with
  | 0 => I 301 o
  | 1 => nI (s % 4)
  | 2 => I 302 o
  | 3 => I 306 o
  | 4 => nI (s / 4)
  | 5 => I 307 o
  | 6 => I 303 o
  | _ => I 304 o
theorem sem_X3_told {l : Launch} {D : va_G} {A : Nat → Prop} {z : Nat} {t : TT} {I : MI} {R : MR} {J : MI} {B : MR} {x o s : Nat} {v : Int32} {Φ : PP} (hX : XSt x t I R B) (ho : (t o).1 = 4) (h1 : R 300 o = some (xSo x s)) (hs : s < 32) (q0 : (∀ i, i < 8 → v ≠ nI i) → Φ (some (.int (-1))) z t I R J B) (q : ∀ i, i < 8 → v = nI i → Φ (some (.int (ltF I o s i))) z t I R J B) : Sem l D A 0 0 0 mX3_told [va_rf (some o), .int v] z t I R J B Φ := by
  refine Sem.run [some (va_rf (some o)), some (.int v)] (by decide) rfl (ent_r (ent_i ent_nil)) ?_
  refine V_iload dX3_told_0 rfl ?_
  refine V_tsw (N := 8) (dt := 100) (fun i => match i with | 0 => 48 | 1 => 53 | 2 => 64 | 3 => 69 | 4 => 74 | 5 => 85 | 6 => 90 | _ => 95) dX3_told_1 (by decide) (by decide) (by decide) (by decide +kernel) (fun i9 hi9 hx9 => ?_) (fun ho9 => ?_)
  · rcases (show i9 = 0 ∨ i9 = 1 ∨ i9 = 2 ∨ i9 = 3 ∨ i9 = 4 ∨ i9 = 5 ∨ i9 = 6 ∨ i9 = 7 by omega) with rfl | rfl | rfl | rfl | rfl | rfl | rfl | rfl
    · refine V_aload dX3_told_48 rfl ?_
      refine V_getI fk_X3_15 dX3_told_49 (by assumption) ?_
      exact V_iret dX3_told_52 rfl (by decide) (by decide) (q 0 hi9 hx9)
    · refine V_aload dX3_told_53 rfl ?_
      refine V_getRs fk_X3_9 dX3_told_54 (by assumption) h1 ?_
      refine V_getRs fk_X3_37 dX3_told_57 (hX.so.2.2 _ hs).2.1 (hX.so.2.2 _ hs).2.2.2.2.1 ?_
      refine V_getIs fk_X3_43 dX3_told_60 (hX.kd.2.2 _ (Nat.mod_lt _ (by decide))).2.1 (hX.kd.2.2 _ (Nat.mod_lt _ (by decide))).2.2.1 ?_
      exact V_iret dX3_told_63 rfl (by decide) (by decide) (q 1 hi9 hx9)
    · refine V_aload dX3_told_64 rfl ?_
      refine V_getI fk_X3_19 dX3_told_65 (by assumption) ?_
      exact V_iret dX3_told_68 rfl (by decide) (by decide) (q 2 hi9 hx9)
    · refine V_aload dX3_told_69 rfl ?_
      refine V_getI fk_X3_31 dX3_told_70 (by assumption) ?_
      exact V_iret dX3_told_73 rfl (by decide) (by decide) (q 3 hi9 hx9)
    · refine V_aload dX3_told_74 rfl ?_
      refine V_getRs fk_X3_9 dX3_told_75 (by assumption) h1 ?_
      refine V_getRs fk_X3_48 dX3_told_78 (hX.so.2.2 _ hs).2.1 (hX.so.2.2 _ hs).2.2.2.1 ?_
      refine V_getIs fk_X3_52 dX3_told_81 (hX.pl.2.2 _ (by omega)).2.1 (hX.pl.2.2 _ (by omega)).2.2 ?_
      exact V_iret dX3_told_84 rfl (by decide) (by decide) (q 4 hi9 hx9)
    · refine V_aload dX3_told_85 rfl ?_
      refine V_getI fk_X3_34 dX3_told_86 (by assumption) ?_
      exact V_iret dX3_told_89 rfl (by decide) (by decide) (q 5 hi9 hx9)
    · refine V_aload dX3_told_90 rfl ?_
      refine V_getI fk_X3_22 dX3_told_91 (by assumption) ?_
      exact V_iret dX3_told_94 rfl (by decide) (by decide) (q 6 hi9 hx9)
    · refine V_aload dX3_told_95 rfl ?_
      refine V_getI fk_X3_25 dX3_told_96 (by assumption) ?_
      exact V_iret dX3_told_99 rfl (by decide) (by decide) (q 7 hi9 hx9)
  · refine V_const dX3_told_100 ?_
    exact V_iret dX3_told_101 rfl (by decide) (by decide) (q0 ho9)
theorem sem_X11_lot {l : Launch} {D : va_G} {A : Nat → Prop} {z : Nat} {t : TT} {I : MI} {R : MR} {J : MI} {B : MR} {x n : Nat} {lt w : Int32} {la si : Nat → Nat} {Φ : PP} (hX : XSt x t I R B) (hn : I 401 (x + 127) = nI n) (hn2 : n ≤ 300) (hla : ∀ i, i < n → B (x + 128) i = some (la i) ∧ (t (la i)).1 = 4) (hsi : ∀ i, i < n → R 300 (la i) = some (xSo x (si (la i))) ∧ si (la i) < 32) (q0 : (∀ i, i < n → lt ≠ nI i) → Φ (some (.int (-1))) z t I R J B) (q1 : ∀ v, v < n → lt = nI v → (∀ i, i < 8 → w ≠ nI i) → Φ (some (.int (-1))) z t I R J B) (q : ∀ v i, v < n → lt = nI v → i < 8 → w = nI i → Φ (some (.int (ltF I (la v) (si (la v)) i))) z t I R J B) : Sem l D A 2 0 0 mX11_lot [va_rf (some x), .int lt, .int w] z t I R J B Φ := by
  refine Sem.run [some (va_rf (some x)), some (.int lt), some (.int w), none] (by decide) rfl (ent_r (ent_i (ent_i (ent_none ent_nil)))) ?_
  refine V_aload dX11_lot_0 rfl ?_
  refine V_getRs fk_X11_47 dX11_lot_1 hX.hx hX.lo.1 ?_
  refine V_iload dX11_lot_4 rfl ?_
  refine V_invV (As := [_]) mv_X4_numbered lk_X11_140 dX11_lot_5 (c := 4) (by decide) rfl rfl hX.lo.2.1 rfl rfl (Nat.le_of_ble_eq_true rfl) ⟨⟨by decide, by decide⟩, by decide, by decide⟩ (sem_X4_numbered hX.lo.2.1 hX.lo.2.2.1 hX.lo.2.2.2 hn hn2 (fun ho5 => ?_) (fun v hv hvv => ?_))
  · refine V_as3 dX11_lot_8 (by decide) (noL_i _) ?_
    refine V_aload dX11_lot_9 rfl ?_
    refine V_ifnonnull dX11_lot_10 (fun a10 hs10 => ?_) (fun hn10 => ?_)
    · exact absurd hs10 (by simp)
    · refine V_const dX11_lot_13 ?_
      refine V_goto dX11_lot_14 ?_
      exact V_iret dX11_lot_22 rfl (by decide) (by decide) (q0 ho5)
  · rw [(hla v hv).1]
    refine V_as3 dX11_lot_8 (by decide) (noL_i _) ?_
    refine V_aload dX11_lot_9 rfl ?_
    refine V_ifnonnull dX11_lot_10 (fun a10 hs10 => ?_) (fun hn10 => ?_)
    · cases hs10
      refine V_aload dX11_lot_17 rfl ?_
      refine V_iload dX11_lot_18 rfl ?_
      refine V_invV (As := [_]) mv_X3_told lk_X11_190 dX11_lot_19 (c := 3) (by decide) rfl rfl (hla v hv).2 rfl rfl (Nat.le_of_ble_eq_true rfl) ⟨⟨by decide, by decide⟩, by decide, by decide⟩ (sem_X3_told hX (hla v hv).2 (hsi v hv).1 (hsi v hv).2 (fun ho19 => ?_) (fun i hi hvi => ?_))
      · exact V_iret dX11_lot_22 rfl (by decide) (by decide) (q1 v hv hvv ho19)
      · exact V_iret dX11_lot_22 rfl (by decide) (by decide) (q v i hv hvv hi hvi)
    · exact absurd hn10 (by simp)
theorem sem_X11_due {l : Launch} {D : va_G} {A : Nat → Prop} {z : Nat} {t : TT} {I : MI} {R : MR} {J : MI} {B : MR} {x n : Nat} {lt : Int32} {la : Nat → Nat} {Φ : PP} (hX : XSt x t I R B) (hn : I 401 (x + 127) = nI n) (hn2 : n ≤ 300) (hla : ∀ i, i < n → B (x + 128) i = some (la i) ∧ (t (la i)).1 = 4) (q0 : (∀ i, i < n → lt ≠ nI i) → Φ (some (.int 0)) z t I R J B) (q : ∀ v, v < n → lt = nI v → Φ (some (.int (I 310 (la v)))) z t I R J B) : Sem l D A 2 0 0 mX11_due [va_rf (some x), .int lt] z t I R J B Φ := by
  refine Sem.run [some (va_rf (some x)), some (.int lt), none] (by decide) rfl (ent_r (ent_i (ent_none ent_nil))) ?_
  refine V_aload dX11_due_0 rfl ?_
  refine V_getRs fk_X11_47 dX11_due_1 hX.hx hX.lo.1 ?_
  refine V_iload dX11_due_4 rfl ?_
  refine V_invV (As := [_]) mv_X4_numbered lk_X11_140 dX11_due_5 (c := 4) (by decide) rfl rfl hX.lo.2.1 rfl rfl (Nat.le_of_ble_eq_true rfl) ⟨⟨by decide, by decide⟩, by decide, by decide⟩ (sem_X4_numbered hX.lo.2.1 hX.lo.2.2.1 hX.lo.2.2.2 hn hn2 (fun ho5 => ?_) (fun v hv hvv => ?_))
  · refine V_as2 dX11_due_8 (by decide) (noL_i _) ?_
    refine V_aload dX11_due_9 rfl ?_
    refine V_ifnonnull dX11_due_10 (fun a10 hs10 => ?_) (fun hn10 => ?_)
    · exact absurd hs10 (by simp)
    · refine V_const dX11_due_13 ?_
      refine V_goto dX11_due_14 ?_
      exact V_iret dX11_due_21 rfl (by decide) (by decide) (q0 ho5)
  · rw [(hla v hv).1]
    refine V_as2 dX11_due_8 (by decide) (noL_i _) ?_
    refine V_aload dX11_due_9 rfl ?_
    refine V_ifnonnull dX11_due_10 (fun a10 hs10 => ?_) (fun hn10 => ?_)
    · cases hs10
      refine V_aload dX11_due_17 rfl ?_
      refine V_getI fk_X11_251 dX11_due_18 (hla v hv).2 ?_
      exact V_iret dX11_due_21 rfl (by decide) (by decide) (q v hv hvv)
    · exact absurd hn10 (by simp)
theorem sem_X11_condemned {l : Launch} {D : va_G} {A : Nat → Prop} {z : Nat} {t : TT} {I : MI} {R : MR} {J : MI} {B : MR} {x n : Nat} {lt : Int32} {la : Nat → Nat} {Φ : PP} (hX : XSt x t I R B) (hn : I 401 (x + 127) = nI n) (hn2 : n ≤ 300) (hla : ∀ i, i < n → B (x + 128) i = some (la i) ∧ (t (la i)).1 = 4) (q0 : (∀ i, i < n → lt ≠ nI i) → Φ (some (.int 0)) z t I R J B) (q : ∀ v, v < n → lt = nI v → Φ (some (.int (I 311 (la v)))) z t I R J B) : Sem l D A 2 0 0 mX11_condemned [va_rf (some x), .int lt] z t I R J B Φ := by
  refine Sem.run [some (va_rf (some x)), some (.int lt), none] (by decide) rfl (ent_r (ent_i (ent_none ent_nil))) ?_
  refine V_aload dX11_condemned_0 rfl ?_
  refine V_getRs fk_X11_47 dX11_condemned_1 hX.hx hX.lo.1 ?_
  refine V_iload dX11_condemned_4 rfl ?_
  refine V_invV (As := [_]) mv_X4_numbered lk_X11_140 dX11_condemned_5 (c := 4) (by decide) rfl rfl hX.lo.2.1 rfl rfl (Nat.le_of_ble_eq_true rfl) ⟨⟨by decide, by decide⟩, by decide, by decide⟩ (sem_X4_numbered hX.lo.2.1 hX.lo.2.2.1 hX.lo.2.2.2 hn hn2 (fun ho5 => ?_) (fun v hv hvv => ?_))
  · refine V_as2 dX11_condemned_8 (by decide) (noL_i _) ?_
    refine V_aload dX11_condemned_9 rfl ?_
    refine V_ifnonnull dX11_condemned_10 (fun a10 hs10 => ?_) (fun hn10 => ?_)
    · exact absurd hs10 (by simp)
    · refine V_const dX11_condemned_13 ?_
      refine V_goto dX11_condemned_14 ?_
      exact V_iret dX11_condemned_21 rfl (by decide) (by decide) (q0 ho5)
  · rw [(hla v hv).1]
    refine V_as2 dX11_condemned_8 (by decide) (noL_i _) ?_
    refine V_aload dX11_condemned_9 rfl ?_
    refine V_ifnonnull dX11_condemned_10 (fun a10 hs10 => ?_) (fun hn10 => ?_)
    · cases hs10
      refine V_aload dX11_condemned_17 rfl ?_
      refine V_getI fk_X11_265 dX11_condemned_18 (hla v hv).2 ?_
      exact V_iret dX11_condemned_21 rfl (by decide) (by decide) (q v hv hvv)
    · exact absurd hn10 (by simp)
theorem sem_X11_stock {l : Launch} {D : va_G} {A : Nat → Prop} {z : Nat} {t : TT} {I : MI} {R : MR} {J : MI} {B : MR} {x : Nat} {p k : Int32} {ch : List Nat} {Φ : PP} (hX : XSt x t I R B) (hch : Chain t R (R 402 (x + 127)) ch) (q0 : ¬ (0 ≤ p ∧ p ≤ 7 ∧ 0 ≤ k ∧ k ≤ 3) → Φ (some (.int (-1))) z t I R J B) (q : ∀ i j, i < 8 → j < 4 → p = nI i → k = nI j → Φ (some (.int (ch.foldl (stAt I R (xSo x (4 * i + j))) 0))) z t I R J B) : Sem l D A 2 0 0 mX11_stock [va_rf (some x), .int p, .int k] z t I R J B Φ := by
  refine Sem.run [some (va_rf (some x)), some (.int p), some (.int k), none] (by decide) rfl (ent_r (ent_i (ent_i (ent_none ent_nil)))) ?_
  refine V_aload dX11_stock_0 rfl ?_
  refine V_iload dX11_stock_1 rfl ?_
  refine V_iload dX11_stock_2 rfl ?_
  refine V_invV (As := [_, _]) mv_X11_storeOf lk_X11_110 dX11_stock_3 (c := 11) (by decide) rfl rfl hX.hx rfl rfl (Nat.le_of_ble_eq_true rfl) ⟨⟨by decide, by decide⟩, by decide, by decide⟩ (sem_X11_storeOf hX.hx hX.so.1 hX.so.2.1 (fun ho3 => ?_) (fun i j hi hj hvi hvj => ?_))
  · refine V_as3 dX11_stock_6 (by decide) (noL_i _) ?_
    refine V_aload dX11_stock_7 rfl ?_
    refine V_ifnonnull dX11_stock_8 (fun a8 hs8 => ?_) (fun hn8 => ?_)
    · exact absurd hs8 (by simp)
    · refine V_const dX11_stock_11 ?_
      refine V_goto dX11_stock_12 ?_
      exact V_iret dX11_stock_23 rfl (by decide) (by decide) (q0 ho3)
  · rw [(hX.so.2.2 (4 * i + j) (by omega)).1]
    refine V_as3 dX11_stock_6 (by decide) (noL_i _) ?_
    refine V_aload dX11_stock_7 rfl ?_
    refine V_ifnonnull dX11_stock_8 (fun a8 hs8 => ?_) (fun hn8 => ?_)
    · cases hs8
      refine V_aload dX11_stock_15 rfl ?_
      refine V_getRs fk_X11_47 dX11_stock_16 hX.hx hX.lo.1 ?_
      refine V_aload dX11_stock_19 rfl ?_
      refine V_invV (As := [_]) mv_X4_casksAt lk_X11_194 dX11_stock_20 (c := 4) (by decide) rfl rfl hX.lo.2.1 rfl rfl (Nat.le_of_ble_eq_true rfl) ⟨⟨by decide, by decide⟩, by decide, by decide⟩ (sem_X4_casksAt hX.lo.2.1 hch ?_)
      exact V_iret dX11_stock_23 rfl (by decide) (by decide) (q i j hi hj hvi hvj)
    · exact absurd hn8 (by simp)
theorem sem_X11_open {l : Launch} {D : va_G} {A : Nat → Prop} {z : Nat} {t : TT} {I : MI} {R : MR} {J : MI} {B : MR} {x : Nat} {p k : Int32} {Φ : PP} (hX : XSt x t I R B) (q0 : ¬ (0 ≤ p ∧ p ≤ 7 ∧ 0 ≤ k ∧ k ≤ 3) → Φ (some (.int (-1))) z t I R J B) (q : ∀ i j, i < 8 → j < 4 → p = nI i → k = nI j → Φ (some (.int (I 900 (xSo x (4 * i + j) + 1)))) z t I R J B) : Sem l D A 2 0 0 mX11_open [va_rf (some x), .int p, .int k] z t I R J B Φ := by
  refine Sem.run [some (va_rf (some x)), some (.int p), some (.int k), none] (by decide) rfl (ent_r (ent_i (ent_i (ent_none ent_nil)))) ?_
  refine V_aload dX11_open_0 rfl ?_
  refine V_iload dX11_open_1 rfl ?_
  refine V_iload dX11_open_2 rfl ?_
  refine V_invV (As := [_, _]) mv_X11_storeOf lk_X11_110 dX11_open_3 (c := 11) (by decide) rfl rfl hX.hx rfl rfl (Nat.le_of_ble_eq_true rfl) ⟨⟨by decide, by decide⟩, by decide, by decide⟩ (sem_X11_storeOf hX.hx hX.so.1 hX.so.2.1 (fun ho3 => ?_) (fun i j hi hj hvi hvj => ?_))
  · refine V_as3 dX11_open_6 (by decide) (noL_i _) ?_
    refine V_aload dX11_open_7 rfl ?_
    refine V_ifnonnull dX11_open_8 (fun a8 hs8 => ?_) (fun hn8 => ?_)
    · exact absurd hs8 (by simp)
    · refine V_const dX11_open_11 ?_
      refine V_goto dX11_open_12 ?_
      exact V_iret dX11_open_22 rfl (by decide) (by decide) (q0 ho3)
  · rw [(hX.so.2.2 (4 * i + j) (by omega)).1]
    refine V_as3 dX11_open_6 (by decide) (noL_i _) ?_
    refine V_aload dX11_open_7 rfl ?_
    refine V_ifnonnull dX11_open_8 (fun a8 hs8 => ?_) (fun hn8 => ?_)
    · cases hs8
      refine V_aload dX11_open_15 rfl ?_
      refine V_getRs fk_X11_198 dX11_open_16 (hX.so.2.2 (4 * i + j) (by omega)).2.1 (hX.so.2.2 (4 * i + j) (by omega)).2.2.2.2.2.1 ?_
      refine V_getI fk_X11_202 dX11_open_19 (hX.so.2.2 (4 * i + j) (by omega)).2.2.2.2.2.2.2.1 ?_
      exact V_iret dX11_open_22 rfl (by decide) (by decide) (q i j hi hj hvi hvj)
    · exact absurd hn8 (by simp)
theorem sem_X11_lacks {l : Launch} {D : va_G} {A : Nat → Prop} {z : Nat} {t : TT} {I : MI} {R : MR} {J : MI} {B : MR} {x : Nat} {p k : Int32} {Φ : PP} (hX : XSt x t I R B) (q0 : ¬ (0 ≤ p ∧ p ≤ 7 ∧ 0 ≤ k ∧ k ≤ 3) → Φ (some (.int (-1))) z t I R J B) (q : ∀ i j, i < 8 → j < 4 → p = nI i → k = nI j → Φ (some (.int (I 706 (xSo x (4 * i + j))))) z t I R J B) : Sem l D A 2 0 0 mX11_lacks [va_rf (some x), .int p, .int k] z t I R J B Φ := by
  refine Sem.run [some (va_rf (some x)), some (.int p), some (.int k), none] (by decide) rfl (ent_r (ent_i (ent_i (ent_none ent_nil)))) ?_
  refine V_aload dX11_lacks_0 rfl ?_
  refine V_iload dX11_lacks_1 rfl ?_
  refine V_iload dX11_lacks_2 rfl ?_
  refine V_invV (As := [_, _]) mv_X11_storeOf lk_X11_110 dX11_lacks_3 (c := 11) (by decide) rfl rfl hX.hx rfl rfl (Nat.le_of_ble_eq_true rfl) ⟨⟨by decide, by decide⟩, by decide, by decide⟩ (sem_X11_storeOf hX.hx hX.so.1 hX.so.2.1 (fun ho3 => ?_) (fun i j hi hj hvi hvj => ?_))
  · refine V_as3 dX11_lacks_6 (by decide) (noL_i _) ?_
    refine V_aload dX11_lacks_7 rfl ?_
    refine V_ifnonnull dX11_lacks_8 (fun a8 hs8 => ?_) (fun hn8 => ?_)
    · exact absurd hs8 (by simp)
    · refine V_const dX11_lacks_11 ?_
      refine V_goto dX11_lacks_12 ?_
      exact V_iret dX11_lacks_19 rfl (by decide) (by decide) (q0 ho3)
  · rw [(hX.so.2.2 (4 * i + j) (by omega)).1]
    refine V_as3 dX11_lacks_6 (by decide) (noL_i _) ?_
    refine V_aload dX11_lacks_7 rfl ?_
    refine V_ifnonnull dX11_lacks_8 (fun a8 hs8 => ?_) (fun hn8 => ?_)
    · cases hs8
      refine V_aload dX11_lacks_15 rfl ?_
      refine V_getI fk_X11_207 dX11_lacks_16 (hX.so.2.2 (4 * i + j) (by omega)).2.1 ?_
      exact V_iret dX11_lacks_19 rfl (by decide) (by decide) (q i j hi hj hvi hvj)
    · exact absurd hn8 (by simp)
theorem sem_X11_began {l : Launch} {D : va_G} {A : Nat → Prop} {z : Nat} {t : TT} {I : MI} {R : MR} {J : MI} {B : MR} {x w : Nat} {p k v : Int32} {Φ : PP} (hX : XSt x t I R B) (hw : I 1111 x = nI w) (hw2 : w ≤ 200) (hrow : ∀ i, i ≤ w → ∃ r, B (x + 4) i = some r ∧ t r = (20, 32)) (q0 : ¬ (0 ≤ p ∧ p ≤ 7 ∧ 0 ≤ k ∧ k ≤ 3) → Φ (some (.int (-1))) z t I R J B) (q1 : (∀ i, i ≤ w → v ≠ nI i) → Φ (some (.int (-1))) z t I R J B) (q : ∀ i j u r, i < 8 → j < 4 → p = nI i → k = nI j → u ≤ w → v = nI u → B (x + 4) u = some r → Φ (some (.int (J r (4 * i + j)))) z t I R J B) : Sem l D A 2 0 0 mX11_began [va_rf (some x), .int p, .int k, .int v] z t I R J B Φ := by
  refine Sem.run [some (va_rf (some x)), some (.int p), some (.int k), some (.int v), none] (by decide) rfl (ent_r (ent_i (ent_i (ent_i (ent_none ent_nil))))) ?_
  refine V_aload dX11_began_0 rfl ?_
  refine V_iload dX11_began_1 rfl ?_
  refine V_iload dX11_began_2 rfl ?_
  refine V_invV (As := [_, _]) mv_X11_storeOf lk_X11_110 dX11_began_3 (c := 11) (by decide) rfl rfl hX.hx rfl rfl (Nat.le_of_ble_eq_true rfl) ⟨⟨by decide, by decide⟩, by decide, by decide⟩ (sem_X11_storeOf hX.hx hX.so.1 hX.so.2.1 (fun ho3 => ?_) (fun i j hi hj hvi hvj => ?_))
  · refine V_as4 dX11_began_6 (by decide) (noL_i _) ?_
    refine V_aload dX11_began_8 rfl ?_
    refine V_ifnonnull dX11_began_10 (fun a10 hs10 => ?_) (fun hn10 => ?_)
    · exact absurd hs10 (by simp)
    · refine V_const dX11_began_13 ?_
      refine V_goto dX11_began_14 ?_
      exact V_iret dX11_began_24 rfl (by decide) (by decide) (q0 ho3)
  · rw [(hX.so.2.2 (4 * i + j) (by omega)).1]
    refine V_as4 dX11_began_6 (by decide) (noL_i _) ?_
    refine V_aload dX11_began_8 rfl ?_
    refine V_ifnonnull dX11_began_10 (fun a10 hs10 => ?_) (fun hn10 => ?_)
    · cases hs10
      refine V_aload dX11_began_17 rfl ?_
      refine V_aload dX11_began_18 rfl ?_
      refine V_iload dX11_began_20 rfl ?_
      refine V_invV (As := [_, _]) mv_X11_stockAsBegan lk_X11_210 dX11_began_21 (c := 11) (by decide) rfl rfl hX.hx rfl rfl (Nat.le_of_ble_eq_true rfl) ⟨⟨by decide, by decide⟩, by decide, by decide⟩ (sem_X11_stockAsBegan (k := 4 * i + j) hX.hx hX.bg.1 hX.bg.2 (hX.so.2.2 (4 * i + j) (by omega)).2.1 (hX.so.2.2 (4 * i + j) (by omega)).2.2.1 (by omega) hw hw2 hrow (fun hob => ?_) (fun u r hu hvu hru => ?_))
      · exact V_iret dX11_began_24 rfl (by decide) (by decide) (q1 hob)
      · exact V_iret dX11_began_24 rfl (by decide) (by decide) (q i j u r hi hj hvi hvj hu hvu hru)
    · exact absurd hn10 (by simp)
theorem sem_X11_known {l : Launch} {D : va_G} {A : Nat → Prop} {z : Nat} {t : TT} {I : MI} {R : MR} {J : MI} {B : MR} {x w : Nat} {p k v : Int32} {Φ : PP} (hX : XSt x t I R B) (hw : I 1111 x = nI w) (hw2 : w ≤ 200) (hrow : ∀ i, i ≤ w → ∃ r, B (x + 4) i = some r ∧ t r = (20, 32)) (q0 : ¬ (0 ≤ p ∧ p ≤ 7 ∧ 0 ≤ k ∧ k ≤ 3) → Φ (some (.int (-1))) z t I R J B) (q1 : ¬ (0 ≤ v ∧ v ≤ nI w) → Φ (some (.int (-1))) z t I R J B) (q2 : ∀ i, i < 8 → p = nI i → 0 ≤ v ∧ v ≤ nI w → (∀ u, u ≤ w → v - I 502 (xPl x i) ≠ nI u) → Φ (some (.int (-1))) z t I R J B) (q : ∀ i j u r, i < 8 → j < 4 → p = nI i → k = nI j → 0 ≤ v ∧ v ≤ nI w → u ≤ w → v - I 502 (xPl x i) = nI u → B (x + 4) u = some r → Φ (some (.int (J r (4 * i + j)))) z t I R J B) : Sem l D A 2 0 0 mX11_known [va_rf (some x), .int p, .int k, .int v] z t I R J B Φ := by
  refine Sem.run [some (va_rf (some x)), some (.int p), some (.int k), some (.int v), none] (by decide) rfl (ent_r (ent_i (ent_i (ent_i (ent_none ent_nil))))) ?_
  refine V_aload dX11_known_0 rfl ?_
  refine V_iload dX11_known_1 rfl ?_
  refine V_iload dX11_known_2 rfl ?_
  refine V_invV (As := [_, _]) mv_X11_storeOf lk_X11_110 dX11_known_3 (c := 11) (by decide) rfl rfl hX.hx rfl rfl (Nat.le_of_ble_eq_true rfl) ⟨⟨by decide, by decide⟩, by decide, by decide⟩ (sem_X11_storeOf hX.hx hX.so.1 hX.so.2.1 (fun ho3 => ?_) (fun i j hi hj hvi hvj => ?_))
  · refine V_as4 dX11_known_6 (by decide) (noL_i _) ?_
    refine V_aload dX11_known_8 rfl ?_
    refine V_ifnull dX11_known_10 (fun hn10 => ?_) (fun a10 hs10 => ?_)
    · refine V_const dX11_known_25 ?_
      exact V_iret dX11_known_26 rfl (by decide) (by decide) (q0 ho3)
    · exact absurd hs10 (by simp)
  · rw [(hX.so.2.2 (4 * i + j) (by omega)).1]
    refine V_as4 dX11_known_6 (by decide) (noL_i _) ?_
    refine V_aload dX11_known_8 rfl ?_
    refine V_ifnull dX11_known_10 (fun hn10 => ?_) (fun a10 hs10 => ?_)
    · exact absurd hn10 (by simp)
    · cases hs10
      refine V_iload dX11_known_13 rfl ?_
      refine V_const dX11_known_14 ?_
      refine V_aload dX11_known_15 rfl ?_
      refine V_getIs fk_X11_121 dX11_known_16 hX.hx hw ?_
      refine V_invS (As := [_, _, _]) ms_X11_within lk_X11_89 dX11_known_19 rfl rfl rfl (Nat.le_of_ble_eq_true rfl) ⟨⟨by decide, by decide⟩, by decide, by decide⟩ (sem_X11_within ?_)
      refine V_if_ne dX11_known_22 (fun hc22 => ?_) (fun hc22 => ?_)
      · rw [bI_n0] at hc22
        refine V_aload dX11_known_27 rfl ?_
        refine V_aload dX11_known_28 rfl ?_
        refine V_iload dX11_known_30 rfl ?_
        refine V_aload dX11_known_31 rfl ?_
        refine V_getRs fk_X11_154 dX11_known_33 (hX.so.2.2 (4 * i + j) (by omega)).2.1 ((hX.so.2.2 (4 * i + j) (by omega)).2.2.2.1.trans (by rw [show (4 * i + j) / 4 = i by omega])) ?_
        refine V_getI fk_X11_107 dX11_known_36 (hX.pl.2.2 i hi).2.1 ?_
        refine V_isub dX11_known_39 ?_
        refine V_invV (As := [_, _]) mv_X11_stockAsBegan lk_X11_210 dX11_known_40 (c := 11) (by decide) rfl rfl hX.hx rfl rfl (Nat.le_of_ble_eq_true rfl) ⟨⟨by decide, by decide⟩, by decide, by decide⟩ (sem_X11_stockAsBegan (k := 4 * i + j) hX.hx hX.bg.1 hX.bg.2 (hX.so.2.2 (4 * i + j) (by omega)).2.1 (hX.so.2.2 (4 * i + j) (by omega)).2.2.1 (by omega) hw hw2 hrow (fun hob => ?_) (fun u r hu hvu hru => ?_))
        · exact V_iret dX11_known_43 rfl (by decide) (by decide) (q2 i hi hvi hc22 hob)
        · exact V_iret dX11_known_43 rfl (by decide) (by decide) (q i j u r hi hj hvi hvj hc22 hu hvu hru)
      · rw [bI_0] at hc22
        refine V_const dX11_known_25 ?_
        exact V_iret dX11_known_26 rfl (by decide) (by decide) (q1 hc22)
def cnF (x : Nat) (I : MI) (ch : List Nat) : Nat → Int32 := fun i => match i with
  | 0 => I 1111 x
  | 1 => I 401 (x + 127)
  | 2 => I 1112 x
  | 3 => ch.foldl (stAll I) 0
  | 4 => I 1113 x
  | 5 => I 1114 x
  | 6 => I 1115 x
  | _ => I 1001 (x + 129)
theorem sem_X11_count {l : Launch} {D : va_G} {A : Nat → Prop} {z : Nat} {t : TT} {I : MI} {R : MR} {J : MI} {B : MR} {x : Nat} {v : Int32} {ch : List Nat} {Φ : PP} (hX : XSt x t I R B) (hch : Chain t R (R 402 (x + 127)) ch) (q0 : (∀ i, i < 8 → v ≠ nI i) → Φ (some (.int (-1))) z t I R J B) (q : ∀ i, i < 8 → v = nI i → Φ (some (.int (cnF x I ch i))) z t I R J B) : Sem l D A 1 0 0 mX11_count [va_rf (some x), .int v] z t I R J B Φ := by
  refine Sem.run [some (va_rf (some x)), some (.int v)] (by decide) rfl (ent_r (ent_i ent_nil)) ?_
  refine V_iload dX11_count_0 rfl ?_
  refine V_tsw (N := 8) (dt := 97) (fun i => match i with | 0 => 48 | 1 => 53 | 2 => 61 | 3 => 66 | 4 => 74 | 5 => 79 | 6 => 84 | _ => 89) dX11_count_1 (by decide) (by decide) (by decide) (by decide +kernel) (fun i9 hi9 hx9 => ?_) (fun ho9 => ?_)
  · rcases (show i9 = 0 ∨ i9 = 1 ∨ i9 = 2 ∨ i9 = 3 ∨ i9 = 4 ∨ i9 = 5 ∨ i9 = 6 ∨ i9 = 7 by omega) with rfl | rfl | rfl | rfl | rfl | rfl | rfl | rfl
    · refine V_aload dX11_count_48 rfl ?_
      refine V_getI fk_X11_121 dX11_count_49 hX.hx ?_
      exact V_iret dX11_count_52 rfl (by decide) (by decide) (q 0 hi9 hx9)
    · refine V_aload dX11_count_53 rfl ?_
      refine V_getRs fk_X11_47 dX11_count_54 hX.hx hX.lo.1 ?_
      refine V_getI fk_X11_124 dX11_count_57 hX.lo.2.1 ?_
      exact V_iret dX11_count_60 rfl (by decide) (by decide) (q 1 hi9 hx9)
    · refine V_aload dX11_count_61 rfl ?_
      refine V_getI fk_X11_133 dX11_count_62 hX.hx ?_
      exact V_iret dX11_count_65 rfl (by decide) (by decide) (q 2 hi9 hx9)
    · refine V_aload dX11_count_66 rfl ?_
      refine V_getRs fk_X11_47 dX11_count_67 hX.hx hX.lo.1 ?_
      refine V_invV (As := []) mv_X4_casksInAll lk_X11_280 dX11_count_70 (c := 4) (by decide) rfl rfl hX.lo.2.1 rfl rfl (Nat.le_of_ble_eq_true rfl) ⟨⟨by decide, by decide⟩, by decide, by decide⟩ (sem_X4_casksInAll hX.lo.2.1 hch ?_)
      exact V_iret dX11_count_73 rfl (by decide) (by decide) (q 3 hi9 hx9)
    · refine V_aload dX11_count_74 rfl ?_
      refine V_getI fk_X11_283 dX11_count_75 hX.hx ?_
      exact V_iret dX11_count_78 rfl (by decide) (by decide) (q 4 hi9 hx9)
    · refine V_aload dX11_count_79 rfl ?_
      refine V_getI fk_X11_286 dX11_count_80 hX.hx ?_
      exact V_iret dX11_count_83 rfl (by decide) (by decide) (q 5 hi9 hx9)
    · refine V_aload dX11_count_84 rfl ?_
      refine V_getI fk_X11_269 dX11_count_85 hX.hx ?_
      exact V_iret dX11_count_88 rfl (by decide) (by decide) (q 6 hi9 hx9)
    · refine V_aload dX11_count_89 rfl ?_
      refine V_getRs fk_X11_54 dX11_count_90 hX.hx hX.tp.1 ?_
      refine V_getI fk_X11_224 dX11_count_93 hX.tp.2.1 ?_
      exact V_iret dX11_count_96 rfl (by decide) (by decide) (q 7 hi9 hx9)
  · refine V_const dX11_count_97 ?_
    exact V_iret dX11_count_98 rfl (by decide) (by decide) (q0 ho9)
theorem sem_X11_end {l : Launch} {D : va_G} {A : Nat → Prop} {z : Nat} {t : TT} {I : MI} {R : MR} {J : MI} {B : MR} {x : Nat} {v : Int32} {Φ : PP} (hX : XSt x t I R B) (q0 : ¬ (0 ≤ v ∧ v ≤ I 1001 (x + 129)) → Φ (some (.int 0)) z t I R J B) (q : 0 ≤ v ∧ v ≤ I 1001 (x + 129) → Φ (some (.int 1)) z t (up2 I 1001 (x + 129) v) R J B) : Sem l D A 1 0 0 mX11_end [va_rf (some x), .int v] z t I R J B Φ := by
  refine Sem.run [some (va_rf (some x)), some (.int v)] (by decide) rfl (ent_r (ent_i ent_nil)) ?_
  refine V_iload dX11_end_0 rfl ?_
  refine V_const dX11_end_1 ?_
  refine V_aload dX11_end_2 rfl ?_
  refine V_getRs fk_X11_54 dX11_end_3 hX.hx hX.tp.1 ?_
  refine V_getI fk_X11_224 dX11_end_6 hX.tp.2.1 ?_
  refine V_invS (As := [_, _, _]) ms_X11_within lk_X11_89 dX11_end_9 rfl rfl rfl (Nat.le_of_ble_eq_true rfl) ⟨⟨by decide, by decide⟩, by decide, by decide⟩ (sem_X11_within ?_)
  refine V_if_ne dX11_end_12 (fun hc12 => ?_) (fun hc12 => ?_)
  · rw [bI_n0] at hc12
    refine V_aload dX11_end_17 rfl ?_
    refine V_getRs fk_X11_54 dX11_end_18 hX.hx hX.tp.1 ?_
    refine V_iload dX11_end_21 rfl ?_
    refine V_putI fk_X11_224 (Or.inl rfl) rfl rfl dX11_end_22 hX.tp.2.1 ?_
    refine V_const dX11_end_25 ?_
    exact V_zret dX11_end_26 rfl (by first | exact Or.inl rfl | exact Or.inr rfl) (by decide) (by decide) (q hc12)
  · rw [bI_0] at hc12
    refine V_const dX11_end_15 ?_
    exact V_zret dX11_end_16 rfl (by first | exact Or.inl rfl | exact Or.inr rfl) (by decide) (by decide) (q0 hc12)
/-- the surveys of a store, by their links -/
def SChain (t : TT) (R : MR) : Option Nat → List Nat → Prop
  | r, [] => r = none
  | r, a :: as => r = some a ∧ (t a).1 = 9 ∧ SChain t R (R 801 a) as
def stBl (I : MI) (s : Int32) (a : Nat) : Int32 := s + I 802 a
theorem lp_X7_balance {l : Launch} {D : va_G} {A : Nat → Prop} {z : Nat} {t : TT} {I : MI} {R : MR} {J : MI} {B : MR} {o : Nat} {Φ : PP} (ho : (t o).1 = 8) : ∀ (rest : List Nat) (r : Option Nat) (s : Int32), SChain t R r rest → V l D A (rmm 1 0 0) mX7_forgivenBalance (KS D A 0 0 Φ) 0 0 z t I R J B 26 [some (va_rf (some o)), some (.int (rest.foldl (stBl I) s)), none] [] → V l D A (rmm 1 0 0) mX7_forgivenBalance (KS D A 0 0 Φ) 0 0 z t I R J B 7 [some (va_rf (some o)), some (.int s), some (va_rf r)] [] := by
  intro rest
  induction rest with
  | nil =>
    intro r s hch q
    have hr : r = none := hch
    subst hr
    refine V_aload dX7_forgivenBalance_7 rfl ?_
    refine V_ifnull dX7_forgivenBalance_8 (fun hn8 => ?_) (fun a8 hs8 => ?_)
    · exact V.sub (lsS (lsS (lsN ls0))) q
    · exact absurd hs8 (by simp)
  | cons a as ih =>
    intro r s hch q
    obtain ⟨rfl, ha, hch⟩ := hch
    refine V_aload dX7_forgivenBalance_7 rfl ?_
    refine V_ifnull dX7_forgivenBalance_8 (fun hn8 => ?_) (fun a8 hs8 => ?_)
    · exact absurd hn8 (by simp)
    · cases hs8
      refine V_iload dX7_forgivenBalance_11 rfl ?_
      refine V_aload dX7_forgivenBalance_12 rfl ?_
      refine V_getI fk_X7_42 dX7_forgivenBalance_13 (by assumption) ?_
      refine V_iadd dX7_forgivenBalance_16 ?_
      refine V_is1 dX7_forgivenBalance_17 (by decide) (noL_r _) ?_
      refine V_aload dX7_forgivenBalance_18 rfl ?_
      refine V_getR fk_X7_45 dX7_forgivenBalance_19 (by assumption) ?_
      refine V_as2 dX7_forgivenBalance_22 (by decide) (noL_i _) ?_
      refine V_goto dX7_forgivenBalance_23 ?_
      exact V.sub (lsS (lsS (lsS ls0))) (ih _ _ hch q)
def blS (s o : Int32) : Int32 := if s < 0 then jmin 0 (s + o / 8) else s
theorem sem_X7_forgivenBalance {l : Launch} {D : va_G} {A : Nat → Prop} {z : Nat} {t : TT} {I : MI} {R : MR} {J : MI} {B : MR} {o : Nat} {sv : List Nat} {Φ : PP} (ho : (t o).1 = 8) (hch : SChain t R (R 707 o) sv) (q : Φ (some (.int (blS (sv.foldl (stBl I) 0) (I 705 o)))) z t I R J B) : Sem l D A 1 0 0 mX7_forgivenBalance [va_rf (some o)] z t I R J B Φ := by
  refine Sem.run [some (va_rf (some o)), none, none] (by decide) rfl (ent_r (ent_none (ent_none ent_nil))) ?_
  refine V_const dX7_forgivenBalance_0 ?_
  refine V_is1 dX7_forgivenBalance_1 (by decide) (noL_r _) ?_
  refine V_aload dX7_forgivenBalance_2 rfl ?_
  refine V_getR fk_X7_33 dX7_forgivenBalance_3 (by assumption) ?_
  refine V_as2 dX7_forgivenBalance_6 (by decide) (noL_i _) ?_
  refine V.sub (lsS (lsS (lsS ls0))) (lp_X7_balance ho sv _ _ hch ?_)
  refine V_iload dX7_forgivenBalance_26 rfl ?_
  refine V_if_ge dX7_forgivenBalance_27 (fun hc27 => ?_) (fun hc27 => ?_)
  · refine V_iload dX7_forgivenBalance_46 rfl ?_
    exact V_iret dX7_forgivenBalance_47 rfl (by decide) (by decide) (by unfold blS at q; rw [if_neg (fun h => by rw [i_lt] at h; rw [i_le] at hc27; omega)] at q; exact q)
  · refine V_const dX7_forgivenBalance_30 ?_
    refine V_iload dX7_forgivenBalance_31 rfl ?_
    refine V_aload dX7_forgivenBalance_32 rfl ?_
    refine V_getI fk_X7_51 dX7_forgivenBalance_33 (by assumption) ?_
    refine V_const dX7_forgivenBalance_36 ?_
    refine V_idiv dX7_forgivenBalance_38 (by decide) ?_
    refine V_iadd dX7_forgivenBalance_39 ?_
    refine V_jmin dX7_forgivenBalance_40 lk_X7_54 (by decide) (by decide) (by decide) (by decide) (Nat.le_of_ble_eq_true rfl) ?_
    refine V_goto dX7_forgivenBalance_43 ?_
    exact V_iret dX7_forgivenBalance_47 rfl (by decide) (by decide) (by unfold blS at q; rw [if_pos (by rw [i_le] at hc27; rw [i_lt]; omega)] at q; exact q)
theorem sem_X11_balance {l : Launch} {D : va_G} {A : Nat → Prop} {z : Nat} {t : TT} {I : MI} {R : MR} {J : MI} {B : MR} {x : Nat} {p k : Int32} {sv : Nat → List Nat} {Φ : PP} (hX : XSt x t I R B) (hsv : ∀ i, i < 32 → SChain t R (R 707 (xSo x i)) (sv i)) (q0 : ¬ (0 ≤ p ∧ p ≤ 7 ∧ 0 ≤ k ∧ k ≤ 3) → Φ (some (.int (-1000000))) z t I R J B) (q : ∀ i j, i < 8 → j < 4 → p = nI i → k = nI j → Φ (some (.int (blS ((sv (4 * i + j)).foldl (stBl I) 0) (I 705 (xSo x (4 * i + j)))))) z t I R J B) : Sem l D A 2 0 0 mX11_balance [va_rf (some x), .int p, .int k] z t I R J B Φ := by
  refine Sem.run [some (va_rf (some x)), some (.int p), some (.int k), none] (by decide) rfl (ent_r (ent_i (ent_i (ent_none ent_nil)))) ?_
  refine V_aload dX11_balance_0 rfl ?_
  refine V_iload dX11_balance_1 rfl ?_
  refine V_iload dX11_balance_2 rfl ?_
  refine V_invV (As := [_, _]) mv_X11_storeOf lk_X11_110 dX11_balance_3 (c := 11) (by decide) rfl rfl hX.hx rfl rfl (Nat.le_of_ble_eq_true rfl) ⟨⟨by decide, by decide⟩, by decide, by decide⟩ (sem_X11_storeOf hX.hx hX.so.1 hX.so.2.1 (fun ho3 => ?_) (fun i j hi hj hvi hvj => ?_))
  · refine V_as3 dX11_balance_6 (by decide) (noL_i _) ?_
    refine V_aload dX11_balance_7 rfl ?_
    refine V_ifnonnull dX11_balance_8 (fun a8 hs8 => ?_) (fun hn8 => ?_)
    · exact absurd hs8 (by simp)
    · refine V_ldcw kk_X11_268 dX11_balance_11 ?_
      refine V_goto dX11_balance_14 ?_
      exact V_iret dX11_balance_21 rfl (by decide) (by decide) (q0 ho3)
  · rw [(hX.so.2.2 (4 * i + j) (by omega)).1]
    refine V_as3 dX11_balance_6 (by decide) (noL_i _) ?_
    refine V_aload dX11_balance_7 rfl ?_
    refine V_ifnonnull dX11_balance_8 (fun a8 hs8 => ?_) (fun hn8 => ?_)
    · cases hs8
      refine V_aload dX11_balance_17 rfl ?_
      refine V_invV (As := []) mv_X7_forgivenBalance lk_X11_276 dX11_balance_18 (c := 7) (by decide) rfl rfl (hX.so.2.2 (4 * i + j) (by omega)).2.1 rfl rfl (Nat.le_of_ble_eq_true rfl) ⟨⟨by decide, by decide⟩, by decide, by decide⟩ (sem_X7_forgivenBalance (hX.so.2.2 (4 * i + j) (by omega)).2.1 (hsv _ (by omega)) ?_)
      exact V_iret dX11_balance_21 rfl (by decide) (by decide) (q i j hi hj hvi hvj)
    · exact absurd hn8 (by simp)
theorem sem_X8_init {l : Launch} {D : va_G} {A : Nat → Prop} {z : Nat} {t : TT} {I : MI} {R : MR} {J : MI} {B : MR} {o : Nat} {a d : Int32} {r : Option Nat} {Φ : PP} (ho : (t o).1 = 9) (q : Φ none z t (up2 (up2 I 800 o a) 802 o d) (up2 R 801 o r) J B) : Sem l D A 1 0 0 mX8_init [va_rf (some o), .int a, .int d, va_rf r] z t I R J B Φ := by
  refine Sem.run [some (va_rf (some o)), some (.int a), some (.int d), some (va_rf r)] (by decide) rfl (ent_r (ent_i (ent_i (ent_r ent_nil)))) ?_
  refine V_aload dX8_init_0 rfl ?_
  refine V_objInit dX8_init_1 lk_X8_1 w_oi1 w_oi2 (by decide) (by decide) (Nat.le_of_ble_eq_true rfl) ?_
  refine V_aload dX8_init_4 rfl ?_
  refine V_iload dX8_init_5 rfl ?_
  refine V_putI fk_X8_7 (Or.inr ⟨rfl, rfl, rfl⟩) rfl rfl dX8_init_6 (by assumption) ?_
  refine V_aload dX8_init_9 rfl ?_
  refine V_iload dX8_init_10 rfl ?_
  refine V_putI fk_X8_13 (Or.inl rfl) rfl rfl dX8_init_11 (by assumption) ?_
  refine V_aload dX8_init_14 rfl ?_
  refine V_aload dX8_init_15 rfl ?_
  refine V_putR fk_X8_16 (Or.inr ⟨rfl, rfl, rfl⟩) (fun v => by cases v <;> rfl) (fun v => by cases v <;> rfl) dX8_init_16 (by assumption) ?_
  exact V_vret dX8_init_19 rfl (by decide) (by decide) q
theorem lp_X7_note {l : Launch} {D : va_G} {A : Nat → Prop} {z : Nat} {t : TT} {I : MI} {R : MR} {J : MI} {B : MR} {o : Nat} {v d : Int32} {Φ : PP} (ho : (t o).1 = 8) : ∀ (rest : List Nat) (r : Option Nat) , SChain t R r rest → (∀ a ∈ rest, I 800 a = v → Φ none z t (up2 I 802 a d) R J B) → ((∀ a ∈ rest, I 800 a ≠ v) → V l D A (rmm 2 1 3) mX7_noteSurvey (KS D A 1 3 Φ) 0 0 z t I R J B 31 [some (va_rf (some o)), some (.int v), some (.int d), none] []) → V l D A (rmm 2 1 3) mX7_noteSurvey (KS D A 1 3 Φ) 0 0 z t I R J B 5 [some (va_rf (some o)), some (.int v), some (.int d), some (va_rf r)] [] := by
  intro rest
  induction rest with
  | nil =>
    intro r  hch q1 q2
    have hr : r = none := hch
    subst hr
    refine V_aload dX7_noteSurvey_5 rfl ?_
    refine V_ifnull dX7_noteSurvey_6 (fun hn6 => ?_) (fun a6 hs6 => ?_)
    · exact V.sub (lsS (lsS (lsS (lsN ls0)))) (q2 (fun a ha => absurd ha List.not_mem_nil))
    · exact absurd hs6 (by simp)
  | cons a as ih =>
    intro r  hch q1 q2
    obtain ⟨rfl, ha, hch⟩ := hch
    refine V_aload dX7_noteSurvey_5 rfl ?_
    refine V_ifnull dX7_noteSurvey_6 (fun hn6 => ?_) (fun a6 hs6 => ?_)
    · exact absurd hn6 (by simp)
    · cases hs6
      refine V_aload dX7_noteSurvey_9 rfl ?_
      refine V_getI fk_X7_37 dX7_noteSurvey_10 (by assumption) ?_
      refine V_iload dX7_noteSurvey_13 rfl ?_
      refine V_icmp_ne dX7_noteSurvey_14 (fun hc14 => ?_) (fun hc14 => ?_)
      · refine V_aload dX7_noteSurvey_23 rfl ?_
        refine V_getR fk_X7_45 dX7_noteSurvey_24 (by assumption) ?_
        refine V_as3 dX7_noteSurvey_27 (by decide) (noL_i _) ?_
        refine V_goto dX7_noteSurvey_28 ?_
        exact V.sub (lsS (lsS (lsS (lsS ls0)))) (ih _ hch (fun b hb e => q1 b (List.mem_cons_of_mem _ hb) e) (fun h => q2 (fun b hb => by rcases List.mem_cons.mp hb with rfl | hb; exact hc14; exact h b hb)))
      · refine V_aload dX7_noteSurvey_17 rfl ?_
        refine V_iload dX7_noteSurvey_18 rfl ?_
        refine V_putI fk_X7_42 (Or.inl rfl) rfl rfl dX7_noteSurvey_19 (by assumption) ?_
        exact V_vret dX7_noteSurvey_22 rfl (by decide) (by decide) (q1 a List.mem_cons_self hc14)
theorem sem_X7_noteSurvey {l : Launch} {D : va_G} {A : Nat → Prop} {z : Nat} {t : TT} {I : MI} {R : MR} {J : MI} {B : MR} {o : Nat} {v d : Int32} {sv : List Nat} {Φ : PP} (ho : (t o).1 = 8) (hA : ∀ q, z ≤ q → A q) (hch : SChain t R (R 707 o) sv) (q0 : ∀ a ∈ sv, I 800 a = v → Φ none z t (up2 I 802 a d) R J B) (q : (∀ a ∈ sv, I 800 a ≠ v) → Φ none (z + 1) (va_up t z (9, 0)) (up2 (up2 (zI I z) 800 z v) 802 z d) (up2 (up2 (zR R z) 801 z (R 707 o)) 707 o (some z)) J B) : Sem l D A 2 1 3 mX7_noteSurvey [va_rf (some o), .int v, .int d] z t I R J B Φ := by
  refine Sem.run [some (va_rf (some o)), some (.int v), some (.int d), none] (by decide) rfl (ent_r (ent_i (ent_i (ent_none ent_nil)))) ?_
  refine V.lt (fun hlt => ?_)
  refine V_aload dX7_noteSurvey_0 rfl ?_
  refine V_getR fk_X7_33 dX7_noteSurvey_1 (by assumption) ?_
  refine V_as3 dX7_noteSurvey_4 (by decide) (noL_i _) ?_
  refine V.sub (lsS (lsS (lsS (lsS ls0)))) (lp_X7_note ho sv _ hch q0 (fun hno => ?_))
  refine V_aload dX7_noteSurvey_31 rfl ?_
  refine V_new (c := 8) (by decide) rfl rfl ck_X7_38 wn_X8 wi_X8 (hA _ (Nat.le_refl _)) (by decide) (by decide) dX7_noteSurvey_32 ?_
  have hoz : o < z := hlt o (by rw [ho]; decide)
  have ho2 : (va_up t z (9, 0) o).1 = 8 := by rw [va_up_ne _ _ (by omega)]; exact ho
  refine V_dupr dX7_noteSurvey_35 ?_
  refine V_iload dX7_noteSurvey_36 rfl ?_
  refine V_iload dX7_noteSurvey_37 rfl ?_
  refine V_aload dX7_noteSurvey_38 rfl ?_
  refine V_getRs fk_X7_33 dX7_noteSurvey_39 ho2 (zR_ne _ _ (by omega)) ?_
  refine V_invI (As := [_, _, _]) mc_X8_init lk_X7_48 dX7_noteSurvey_42 rfl rfl (Nat.le_of_ble_eq_true rfl) ⟨⟨by decide, by decide⟩, by decide, by decide⟩ (sem_X8_init (by rw [va_up_self]) ?_)
  refine V_putR fk_X7_33 (Or.inl rfl) (fun v => by cases v <;> rfl) (fun v => by cases v <;> rfl) dX7_noteSurvey_45 ho2 ?_
  exact V_vret dX7_noteSurvey_48 rfl (by decide) (by decide) (q hno)
set_option maxHeartbeats 4000000 in
theorem sem_X11_survey {l : Launch} {D : va_G} {A : Nat → Prop} {z : Nat} {t : TT} {I : MI} {R : MR} {J : MI} {B : MR} {x w n : Nat} {p k v d : Int32} {sv : Nat → List Nat} {Φ : PP} (hX : XSt x t I R B) (hA : ∀ q, z ≤ q → A q) (hw : I 1111 x = nI w) (hw2 : w ≤ 200) (hrow : ∀ i, i ≤ w → ∃ r, B (x + 4) i = some r ∧ t r = (20, 32)) (hsv : ∀ i, i < 32 → SChain t R (R 707 (xSo x i)) (sv i)) (hns : I 1115 x = nI n) (hns2 : n ≤ 200) (q0 : ¬ ((0 ≤ p ∧ p ≤ 7 ∧ 0 ≤ k ∧ k ≤ 3) ∧ (0 ≤ v ∧ v ≤ nI w) ∧ (0 ≤ d ∧ d ≤ 100000) ∧ n < 200) → Φ (some (.int (-1000000))) z t I R J B) (q1 : ∀ i j u r, i < 8 → j < 4 → p = nI i → k = nI j → u ≤ w → v = nI u → B (x + 4) u = some r → 0 ≤ d ∧ d ≤ 100000 → n < 200 → ∀ a ∈ sv (4 * i + j), I 800 a = v → Φ (some (.int (d - J r (4 * i + j)))) z t (up2 (up2 I 1115 x (nI (n + 1))) 802 a (d - J r (4 * i + j))) R J B) (q : ∀ i j u r, i < 8 → j < 4 → p = nI i → k = nI j → u ≤ w → v = nI u → B (x + 4) u = some r → 0 ≤ d ∧ d ≤ 100000 → n < 200 → (∀ a ∈ sv (4 * i + j), I 800 a ≠ v) → Φ (some (.int (d - J r (4 * i + j)))) (z + 1) (va_up t z (9, 0)) (up2 (up2 (zI (up2 I 1115 x (nI (n + 1))) z) 800 z v) 802 z (d - J r (4 * i + j))) (up2 (up2 (zR R z) 801 z (R 707 (xSo x (4 * i + j)))) 707 (xSo x (4 * i + j)) (some z)) J B) : Sem l D A 3 1 3 mX11_survey [va_rf (some x), .int p, .int k, .int v, .int d] z t I R J B Φ := by
  refine Sem.run [some (va_rf (some x)), some (.int p), some (.int k), some (.int v), some (.int d), none, none] (by decide) rfl (ent_r (ent_i (ent_i (ent_i (ent_i (ent_none (ent_none ent_nil))))))) ?_
  refine V_aload dX11_survey_0 rfl ?_
  refine V_iload dX11_survey_1 rfl ?_
  refine V_iload dX11_survey_2 rfl ?_
  refine V_invV (As := [_, _]) mv_X11_storeOf lk_X11_110 dX11_survey_3 (c := 11) (by decide) rfl rfl hX.hx rfl rfl (Nat.le_of_ble_eq_true rfl) ⟨⟨by decide, by decide⟩, by decide, by decide⟩ (sem_X11_storeOf hX.hx hX.so.1 hX.so.2.1 (fun ho3 => ?_) (fun i j hi hj hvi hvj => ?_))
  · refine V_as5 dX11_survey_6 (by decide) (noL_i _) ?_
    refine V_aload dX11_survey_8 rfl ?_
    refine V_ifnull dX11_survey_10 (fun hn10 => ?_) (fun a10 hs10 => ?_)
    · refine V_ldcw kk_X11_268 dX11_survey_36 ?_
      exact V_iret dX11_survey_39 rfl (by decide) (by decide) (q0 (fun h => ho3 h.1))
    · exact absurd hs10 (by simp)
  · rw [(hX.so.2.2 (4 * i + j) (by omega)).1]
    refine V_as5 dX11_survey_6 (by decide) (noL_i _) ?_
    refine V_aload dX11_survey_8 rfl ?_
    refine V_ifnull dX11_survey_10 (fun hn10 => ?_) (fun a10 hs10 => ?_)
    · exact absurd hn10 (by simp)
    · cases hs10
      refine V_iload dX11_survey_13 rfl ?_
      refine V_const dX11_survey_14 ?_
      refine V_aload dX11_survey_15 rfl ?_
      refine V_getIs fk_X11_121 dX11_survey_16 hX.hx hw ?_
      refine V_invS (As := [_, _, _]) ms_X11_within lk_X11_89 dX11_survey_19 rfl rfl rfl (Nat.le_of_ble_eq_true rfl) ⟨⟨by decide, by decide⟩, by decide, by decide⟩ (sem_X11_within ?_)
      refine V_if_eq dX11_survey_22 (fun hc22 => ?_) (fun hc22 => ?_)
      · rw [bI_0] at hc22
        refine V_ldcw kk_X11_268 dX11_survey_36 ?_
        exact V_iret dX11_survey_39 rfl (by decide) (by decide) (q0 (fun h => hc22 h.2.1))
      · rw [bI_n0] at hc22
        refine V_iload dX11_survey_25 rfl ?_
        refine V_const dX11_survey_27 ?_
        refine V_ldc kk_X11_114 dX11_survey_28 ?_
        refine V_invS (As := [_, _, _]) ms_X11_within lk_X11_89 dX11_survey_30 rfl rfl rfl (Nat.le_of_ble_eq_true rfl) ⟨⟨by decide, by decide⟩, by decide, by decide⟩ (sem_X11_within ?_)
        refine V_if_ne dX11_survey_33 (fun hc33 => ?_) (fun hc33 => ?_)
        · rw [bI_n0] at hc33
          refine V_aload dX11_survey_40 rfl ?_
          refine V_getIs fk_X11_269 dX11_survey_41 hX.hx hns ?_
          refine V_const dX11_survey_44 ?_
          refine V_icmp_lt dX11_survey_47 (fun hc47 => ?_) (fun hc47 => ?_)
          · have hlt2 : n < 200 := (nI_ltI (by omega) (by decide)).mp hc47
            refine V_aload dX11_survey_54 rfl ?_
            refine V_dupr dX11_survey_55 ?_
            refine V_getIs fk_X11_269 dX11_survey_56 hX.hx hns ?_
            refine V_const dX11_survey_59 ?_
            refine V_iadd dX11_survey_60 ?_
            refine V_putI fk_X11_269 (Or.inl rfl) rfl rfl dX11_survey_61 hX.hx ?_
            refine V_iload dX11_survey_64 rfl ?_
            refine V_aload dX11_survey_66 rfl ?_
            refine V_aload dX11_survey_67 rfl ?_
            refine V_iload dX11_survey_69 rfl ?_
            refine V_invV (As := [_, _]) mv_X11_stockAsBegan lk_X11_210 dX11_survey_70 (c := 11) (by decide) rfl rfl hX.hx rfl rfl (Nat.le_of_ble_eq_true rfl) ⟨⟨by decide, by decide⟩, by decide, by decide⟩ (sem_X11_stockAsBegan (k := 4 * i + j) hX.hx hX.bg.1 hX.bg.2 (hX.so.2.2 (4 * i + j) (by omega)).2.1 ((up2n (by decide)).trans (hX.so.2.2 (4 * i + j) (by omega)).2.2.1) (by omega) ((up2n (by decide)).trans hw) hw2 hrow (fun hob => ?_) (fun u r hu hvu hru => ?_))
            · exfalso
              obtain ⟨u, hu, hvu⟩ := i_rng (N := w + 1) (by rw [nI_toInt (by omega)]; omega) hc22
              exact hob u (by omega) hvu -- done
            · refine V_isub dX11_survey_73 ?_
              refine V_is6 dX11_survey_74 (by decide) (noL_r _) ?_
              refine V_aload dX11_survey_76 rfl ?_
              refine V_iload dX11_survey_78 rfl ?_
              refine V_iload dX11_survey_79 rfl ?_
              refine V_invV (As := [_, _]) mv_X7_noteSurvey lk_X11_272 dX11_survey_81 (c := 7) (by decide) rfl rfl (hX.so.2.2 (4 * i + j) (by omega)).2.1 rfl rfl (Nat.le_of_ble_eq_true rfl) ⟨⟨by decide, by decide⟩, by decide, by decide⟩ (sem_X7_noteSurvey (hX.so.2.2 (4 * i + j) (by omega)).2.1 hA (hsv _ (by omega)) (fun a ha hav => ?_) (fun hno => ?_))
              · refine V_iload dX11_survey_84 rfl ?_
                exact V_iret dX11_survey_86 rfl (by decide) (by decide) (by have h9 := q1 i j u r hi hj hvi hvj hu hvu hru hc33 hlt2 a ha ((up2n (by decide)).symm.trans hav); rw [← nI_1] at h9; exact h9)
              · refine V_iload dX11_survey_84 rfl ?_
                exact V_iret dX11_survey_86 rfl (by decide) (by decide) (by have h9 := q i j u r hi hj hvi hvj hu hvu hru hc33 hlt2 (fun a ha e => hno a ha ((up2n (by decide)).trans e)); rw [← nI_1] at h9; exact h9)
          · refine V_ldcw kk_X11_268 dX11_survey_50 ?_
            exact V_iret dX11_survey_53 rfl (by decide) (by decide) (q0 (fun h => hc47 (nI_lt h.2.2.2 (by decide))))
        · rw [bI_0] at hc33
          refine V_ldcw kk_X11_268 dX11_survey_36 ?_
          exact V_iret dX11_survey_39 rfl (by decide) (by decide) (q0 (fun h => hc33 h.2.2.1))
