-- ONE ROW AN INSTRUCTION, over V
def up2 {α : Type} (M : Nat → Nat → α) (f a : Nat) (v : α) : Nat → Nat → α := va_up M f (va_up (M f) a v)
theorem up2_self {α : Type} (M : Nat → Nat → α) (f a : Nat) (v : α) : up2 M f a v f = va_up (M f) a v := va_up_self _ _ _
theorem up2_ne {α : Type} (M : Nat → Nat → α) {f g : Nat} (a : Nat) (v : α) (h : g ≠ f) : up2 M f a v g = M g := va_up_ne _ _ h
theorem up2_off {α : Type} (M : Nat → Nat → α) (f g : Nat) {a b : Nat} (v : α) (h : b ≠ a) : up2 M f a v g b = M g b := by
  by_cases e : g = f
  · subst e; rw [up2_self, va_up_ne _ _ h]
  · rw [up2_ne _ _ _ e]
theorem up2_col {α : Type} (M : Nat → Nat → α) (f a : Nat) (v : α) : (fun g => up2 M f a v g a) = va_up (fun g => M g a) f v := by
  funext g
  by_cases e : g = f
  · subst e; rw [up2_self, va_up_self, va_up_self]
  · rw [up2_ne _ _ _ e, va_up_ne _ _ e]
theorem fl_get {c k : Nat} {iv : Nat → Int32} {rv : Nat → Option Nat} {b : Bool} (h : (sh c)[k]? = some b) : (fl c iv rv)[k]? = some (if b then va_rf (rv (100 * c + k)) else .int (iv (100 * c + k))) := by
  unfold fl; rw [List.getElem?_mapIdx, h]; rfl
theorem fl_len (c : Nat) (iv : Nat → Int32) (rv : Nat → Option Nat) : (fl c iv rv).length = (sh c).length := by unfold fl; rw [List.length_mapIdx]
theorem fl_setI {c k : Nat} {iv : Nat → Int32} {rv : Nat → Option Nat} (h : (sh c)[k]? = some false) (v : Int32) : (fl c iv rv).set k (.int v) = fl c (va_up iv (100 * c + k) v) rv := by
  apply List.ext_getElem?
  intro j
  by_cases e : k = j
  · subst e
    have hl : k < (fl c iv rv).length := by rw [fl_len]; exact (List.getElem?_eq_some_iff.mp h).1
    rw [List.getElem?_set_self hl, fl_get h]
    simp [va_up_self]
  · rw [List.getElem?_set_ne e]
    unfold fl
    rw [List.getElem?_mapIdx, List.getElem?_mapIdx]
    rw [va_up_ne _ _ (show 100 * c + j ≠ 100 * c + k by omega)]
theorem fl_setR {c k : Nat} {iv : Nat → Int32} {rv : Nat → Option Nat} (h : (sh c)[k]? = some true) (v : Option Nat) : (fl c iv rv).set k (va_rf v) = fl c iv (va_up rv (100 * c + k) v) := by
  apply List.ext_getElem?
  intro j
  by_cases e : k = j
  · subst e
    have hl : k < (fl c iv rv).length := by rw [fl_len]; exact (List.getElem?_eq_some_iff.mp h).1
    rw [List.getElem?_set_self hl, fl_get h]
    simp [va_up_self]
  · rw [List.getElem?_set_ne e]
    unfold fl
    rw [List.getElem?_mapIdx, List.getElem?_mapIdx]
    rw [va_up_ne _ _ (show 100 * c + j ≠ 100 * c + k by omega)]
def psh (r : Option Value) (st : List Value) : List Value := match r with
  | some v => v :: st
  | none => st
theorem psh_eq (r : Option Value) (st : List Value) : r.toList ++ st = psh r st := by cases r <;> rfl
theorem cat_le (v : Value) : v.category ≤ 2 := by cases v <;> simp [Value.category]
theorem cat_sum (st : List Value) : (st.map fun v => v.category).sum ≤ 2 * st.length := by
  induction st with
  | nil => simp
  | cons v st ih =>
    have h1 := cat_le v
    simp only [List.map_cons, List.sum_cons, List.length_cons]
    omega
section ROWS
variable {l : Launch} {D : va_G} {A : Nat → Prop} {Rm : Room} {μ : Meth} {K : Kx} {k n z : Nat} {t : TT} {I : MI} {R : MR} {J : MI} {B : MR} {pc pc' tgt : Nat} {lv : List (Option Value)} {st : List Value}
theorem V.widen {k' n' : Nat} (h1 : k ≤ k') (h2 : n ≤ n') (kk : V l D A Rm μ K k' n' z t I R J B pc lv st) : V l D A Rm μ K k n z t I R J B pc lv st := by
  intro p e s m args below meth c C X H locs ls hR hS hl
  exact W.widen h1 h2 (kk p e s m args below meth c C X H locs ls hR hS hl)

theorem V_iadd {x y : Int32} (d : D1 μ.2.1 pc .iadd pc')  (kk : V l D A Rm μ K k n z t I R J B pc' lv (.int (x + y) :: st)) : V l D A Rm μ K k n z t I R J B pc lv (.int y :: .int x :: st) := by
  intro p e s m args below meth c C X H locs ls hR hS hl
  obtain ⟨d1, rfl⟩ := d
  exact lv_iadd C.1 C.2.1 d1  (kk p e s m args below meth c C X H locs ls hR hS hl)
theorem V_isub {x y : Int32} (d : D1 μ.2.1 pc .isub pc')  (kk : V l D A Rm μ K k n z t I R J B pc' lv (.int (x - y) :: st)) : V l D A Rm μ K k n z t I R J B pc lv (.int y :: .int x :: st) := by
  intro p e s m args below meth c C X H locs ls hR hS hl
  obtain ⟨d1, rfl⟩ := d
  exact lv_isub C.1 C.2.1 d1  (kk p e s m args below meth c C X H locs ls hR hS hl)
theorem V_imul {x y : Int32} (d : D1 μ.2.1 pc .imul pc')  (kk : V l D A Rm μ K k n z t I R J B pc' lv (.int (x * y) :: st)) : V l D A Rm μ K k n z t I R J B pc lv (.int y :: .int x :: st) := by
  intro p e s m args below meth c C X H locs ls hR hS hl
  obtain ⟨d1, rfl⟩ := d
  exact lv_imul C.1 C.2.1 d1  (kk p e s m args below meth c C X H locs ls hR hS hl)
theorem V_iand {x y : Int32} (d : D1 μ.2.1 pc .iand pc')  (kk : V l D A Rm μ K k n z t I R J B pc' lv (.int (x &&& y) :: st)) : V l D A Rm μ K k n z t I R J B pc lv (.int y :: .int x :: st) := by
  intro p e s m args below meth c C X H locs ls hR hS hl
  obtain ⟨d1, rfl⟩ := d
  exact lv_iand C.1 C.2.1 d1  (kk p e s m args below meth c C X H locs ls hR hS hl)
theorem V_idiv {x y : Int32} (d : D1 μ.2.1 pc .idiv pc') (hne : ¬ y = 0) (kk : V l D A Rm μ K k n z t I R J B pc' lv (.int (x / y) :: st)) : V l D A Rm μ K k n z t I R J B pc lv (.int y :: .int x :: st) := by
  intro p e s m args below meth c C X H locs ls hR hS hl
  obtain ⟨d1, rfl⟩ := d
  exact lv_idiv C.1 C.2.1 d1 hne (kk p e s m args below meth c C X H locs ls hR hS hl)
theorem V_irem {x y : Int32} (d : D1 μ.2.1 pc .irem pc') (hne : ¬ y = 0) (kk : V l D A Rm μ K k n z t I R J B pc' lv (.int (x - x / y * y) :: st)) : V l D A Rm μ K k n z t I R J B pc lv (.int y :: .int x :: st) := by
  intro p e s m args below meth c C X H locs ls hR hS hl
  obtain ⟨d1, rfl⟩ := d
  exact lv_irem C.1 C.2.1 d1 hne (kk p e s m args below meth c C X H locs ls hR hS hl)
theorem V_ineg {x : Int32} (d : D1 μ.2.1 pc .ineg pc')  (kk : V l D A Rm μ K k n z t I R J B pc' lv (.int (-x) :: st)) : V l D A Rm μ K k n z t I R J B pc lv (.int x :: st) := by
  intro p e s m args below meth c C X H locs ls hR hS hl
  obtain ⟨d1, rfl⟩ := d
  exact lv_ineg C.1 C.2.1 d1  (kk p e s m args below meth c C X H locs ls hR hS hl)
theorem V_ishr {x y : Int32} (d : D1 μ.2.1 pc .ishr pc')  (kk : V l D A Rm μ K k n z t I R J B pc' lv (.int (x >>> (y &&& 31)) :: st)) : V l D A Rm μ K k n z t I R J B pc lv (.int y :: .int x :: st) := by
  intro p e s m args below meth c C X H locs ls hR hS hl
  obtain ⟨d1, rfl⟩ := d
  exact lv_ishr C.1 C.2.1 d1  (kk p e s m args below meth c C X H locs ls hR hS hl)
theorem V_iushr {x y : Int32} (d : D1 μ.2.1 pc .iushr pc')  (kk : V l D A Rm μ K k n z t I R J B pc' lv (.int ((x.toUInt32 >>> (y.toUInt32 &&& Int32.toUInt32 31)).toInt32) :: st)) : V l D A Rm μ K k n z t I R J B pc lv (.int y :: .int x :: st) := by
  intro p e s m args below meth c C X H locs ls hR hS hl
  obtain ⟨d1, rfl⟩ := d
  exact lv_iushr C.1 C.2.1 d1 rfl (kk p e s m args below meth c C X H locs ls hR hS hl)
theorem V_i2l {x : Int32} (d : D1 μ.2.1 pc .i2l pc')  (kk : V l D A Rm μ K k n z t I R J B pc' lv (.long x.toInt64 :: st)) : V l D A Rm μ K k n z t I R J B pc lv (.int x :: st) := by
  intro p e s m args below meth c C X H locs ls hR hS hl
  obtain ⟨d1, rfl⟩ := d
  exact lv_i2l C.1 C.2.1 d1 rfl (kk p e s m args below meth c C X H locs ls hR hS hl)
theorem V_l2i {x : Int64} (d : D1 μ.2.1 pc .l2i pc')  (kk : V l D A Rm μ K k n z t I R J B pc' lv (.int x.toInt32 :: st)) : V l D A Rm μ K k n z t I R J B pc lv (.long x :: st) := by
  intro p e s m args below meth c C X H locs ls hR hS hl
  obtain ⟨d1, rfl⟩ := d
  exact lv_l2i C.1 C.2.1 d1 rfl (kk p e s m args below meth c C X H locs ls hR hS hl)
theorem V_ladd {x y : Int64} (d : D1 μ.2.1 pc .ladd pc')  (kk : V l D A Rm μ K k n z t I R J B pc' lv (.long (x + y) :: st)) : V l D A Rm μ K k n z t I R J B pc lv (.long y :: .long x :: st) := by
  intro p e s m args below meth c C X H locs ls hR hS hl
  obtain ⟨d1, rfl⟩ := d
  exact lv_ladd C.1 C.2.1 d1  (kk p e s m args below meth c C X H locs ls hR hS hl)
theorem V_lmul {x y : Int64} (d : D1 μ.2.1 pc .lmul pc')  (kk : V l D A Rm μ K k n z t I R J B pc' lv (.long (x * y) :: st)) : V l D A Rm μ K k n z t I R J B pc lv (.long y :: .long x :: st) := by
  intro p e s m args below meth c C X H locs ls hR hS hl
  obtain ⟨d1, rfl⟩ := d
  exact lv_lmul C.1 C.2.1 d1  (kk p e s m args below meth c C X H locs ls hR hS hl)
theorem V_lrem {x y : Int64} (d : D1 μ.2.1 pc .lrem pc') (hne : ¬ y = 0) (kk : V l D A Rm μ K k n z t I R J B pc' lv (.long (x - x / y * y) :: st)) : V l D A Rm μ K k n z t I R J B pc lv (.long y :: .long x :: st) := by
  intro p e s m args below meth c C X H locs ls hR hS hl
  obtain ⟨d1, rfl⟩ := d
  exact lv_lrem C.1 C.2.1 d1 hne (kk p e s m args below meth c C X H locs ls hR hS hl)
theorem V_land {x y : Int64} (d : D1 μ.2.1 pc .land pc')  (kk : V l D A Rm μ K k n z t I R J B pc' lv (.long (x &&& y) :: st)) : V l D A Rm μ K k n z t I R J B pc lv (.long y :: .long x :: st) := by
  intro p e s m args below meth c C X H locs ls hR hS hl
  obtain ⟨d1, rfl⟩ := d
  exact lv_land C.1 C.2.1 d1  (kk p e s m args below meth c C X H locs ls hR hS hl)
theorem V_lor {x y : Int64} (d : D1 μ.2.1 pc .lor pc')  (kk : V l D A Rm μ K k n z t I R J B pc' lv (.long (x ||| y) :: st)) : V l D A Rm μ K k n z t I R J B pc lv (.long y :: .long x :: st) := by
  intro p e s m args below meth c C X H locs ls hR hS hl
  obtain ⟨d1, rfl⟩ := d
  exact lv_lor C.1 C.2.1 d1  (kk p e s m args below meth c C X H locs ls hR hS hl)
theorem V_lshl {x : Int64} {y : Int32} (d : D1 μ.2.1 pc .lshl pc')  (kk : V l D A Rm μ K k n z t I R J B pc' lv (.long (x <<< (y.toInt64 &&& 63)) :: st)) : V l D A Rm μ K k n z t I R J B pc lv (.int y :: .long x :: st) := by
  intro p e s m args below meth c C X H locs ls hR hS hl
  obtain ⟨d1, rfl⟩ := d
  exact lv_lshl C.1 C.2.1 d1 rfl (kk p e s m args below meth c C X H locs ls hR hS hl)
theorem V_lushr {x : Int64} {y : Int32} (d : D1 μ.2.1 pc .lushr pc')  (kk : V l D A Rm μ K k n z t I R J B pc' lv (.long ((x.toUInt64 >>> (y.toInt64.toUInt64 &&& Int64.toUInt64 63)).toInt64) :: st)) : V l D A Rm μ K k n z t I R J B pc lv (.int y :: .long x :: st) := by
  intro p e s m args below meth c C X H locs ls hR hS hl
  obtain ⟨d1, rfl⟩ := d
  exact lv_lushr C.1 C.2.1 d1 rfl (kk p e s m args below meth c C X H locs ls hR hS hl)
theorem V_dupi {x : Int32} (d : D1 μ.2.1 pc .dup pc')  (kk : V l D A Rm μ K k n z t I R J B pc' lv (.int x :: .int x :: st)) : V l D A Rm μ K k n z t I R J B pc lv (.int x :: st) := by
  intro p e s m args below meth c C X H locs ls hR hS hl
  obtain ⟨d1, rfl⟩ := d
  exact lv_dup C.1 C.2.1 d1 rfl (kk p e s m args below meth c C X H locs ls hR hS hl)
theorem V_dupr {x : Option Nat} (d : D1 μ.2.1 pc .dup pc')  (kk : V l D A Rm μ K k n z t I R J B pc' lv (va_rf x :: va_rf x :: st)) : V l D A Rm μ K k n z t I R J B pc lv (va_rf x :: st) := by
  intro p e s m args below meth c C X H locs ls hR hS hl
  obtain ⟨d1, rfl⟩ := d
  exact lv_dup C.1 C.2.1 d1 (cat_rf x) (kk p e s m args below meth c C X H locs ls hR hS hl)
theorem V_dup2ir {x : Int32} {r : Option Nat} (d : D1 μ.2.1 pc .dup2 pc')  (kk : V l D A Rm μ K k n z t I R J B pc' lv (.int x :: va_rf r :: .int x :: va_rf r :: st)) : V l D A Rm μ K k n z t I R J B pc lv (.int x :: va_rf r :: st) := by
  intro p e s m args below meth c C X H locs ls hR hS hl
  obtain ⟨d1, rfl⟩ := d
  exact lv_dup2_11 C.1 C.2.1 d1 rfl (cat_rf r) (kk p e s m args below meth c C X H locs ls hR hS hl)
theorem V_popi {x : Int32} (d : D1 μ.2.1 pc .pop pc')  (kk : V l D A Rm μ K k n z t I R J B pc' lv (st)) : V l D A Rm μ K k n z t I R J B pc lv (.int x :: st) := by
  intro p e s m args below meth c C X H locs ls hR hS hl
  obtain ⟨d1, rfl⟩ := d
  exact lv_pop C.1 C.2.1 d1 rfl (kk p e s m args below meth c C X H locs ls hR hS hl)
theorem V_popr {x : Option Nat} (d : D1 μ.2.1 pc .pop pc')  (kk : V l D A Rm μ K k n z t I R J B pc' lv (st)) : V l D A Rm μ K k n z t I R J B pc lv (va_rf x :: st) := by
  intro p e s m args below meth c C X H locs ls hR hS hl
  obtain ⟨d1, rfl⟩ := d
  exact lv_pop C.1 C.2.1 d1 (cat_rf x) (kk p e s m args below meth c C X H locs ls hR hS hl)
theorem V_null  (d : D1 μ.2.1 pc .aconst_null pc')  (kk : V l D A Rm μ K k n z t I R J B pc' lv (va_rf none :: st)) : V l D A Rm μ K k n z t I R J B pc lv (st) := by
  intro p e s m args below meth c C X H locs ls hR hS hl
  obtain ⟨d1, rfl⟩ := d
  exact lv_null C.1 C.2.1 d1  (kk p e s m args below meth c C X H locs ls hR hS hl)
theorem V_const {v : Int32} (d : Dconst μ.2.1 pc v pc') (kk : V l D A Rm μ K k n z t I R J B pc' lv (.int v :: st)) : V l D A Rm μ K k n z t I R J B pc lv st := by
  intro p e s m args below meth c C X H locs ls hR hS hl
  rcases d with ⟨q, d1, hv, rfl⟩ | ⟨q, d1, hv, rfl⟩ | ⟨q, d1, hv, rfl⟩
  · exact lv_iconst C.1 C.2.1 d1 hv (kk p e s m args below meth c C X H locs ls hR hS hl)
  · exact lv_bipush C.1 C.2.1 d1 hv (kk p e s m args below meth c C X H locs ls hR hS hl)
  · exact lv_sipush C.1 C.2.1 d1 hv (kk p e s m args below meth c C X H locs ls hR hS hl)
theorem V_iload {i : Nat} {x : Int32} (d : Diload μ.2.1 pc i pc') (h : lv[i]? = some (some (.int x))) (kk : V l D A Rm μ K k n z t I R J B pc' lv (.int x :: st)) : V l D A Rm μ K k n z t I R J B pc lv st := by
  intro p e s m args below meth c C X H locs ls hR hS hl
  rcases d with ⟨q, d1, hv, rfl⟩ | ⟨d1, rfl⟩
  · exact lv_iload_n C.1 C.2.1 d1 hv (hl.2.2 _ _ h) (kk p e s m args below meth c C X H locs ls hR hS hl)
  · exact lv_iload C.1 C.2.1 d1 (hl.2.2 _ _ h) (kk p e s m args below meth c C X H locs ls hR hS hl)
theorem V_lload {i : Nat} {x : Int64} (d : Dlload μ.2.1 pc i pc') (h : lv[i]? = some (some (.long x))) (kk : V l D A Rm μ K k n z t I R J B pc' lv (.long x :: st)) : V l D A Rm μ K k n z t I R J B pc lv st := by
  intro p e s m args below meth c C X H locs ls hR hS hl
  rcases d with ⟨q, d1, hv, rfl⟩ | ⟨d1, rfl⟩
  · exact lv_lload_n C.1 C.2.1 d1 hv (hl.2.2 _ _ h) (kk p e s m args below meth c C X H locs ls hR hS hl)
  · exact lv_lload C.1 C.2.1 d1 (hl.2.2 _ _ h) (kk p e s m args below meth c C X H locs ls hR hS hl)
theorem V_aload {i : Nat} {r : Option Nat} (d : Daload μ.2.1 pc i pc') (h : lv[i]? = some (some (va_rf r))) (kk : V l D A Rm μ K k n z t I R J B pc' lv (va_rf r :: st)) : V l D A Rm μ K k n z t I R J B pc lv st := by
  intro p e s m args below meth c C X H locs ls hR hS hl
  rcases d with ⟨q, d1, hv, rfl⟩ | ⟨d1, rfl⟩ <;> cases r
  · exact lv_aload_nN C.1 C.2.1 d1 hv (hl.2.2 _ _ h) (kk p e s m args below meth c C X H locs ls hR hS hl)
  · exact lv_aload_n C.1 C.2.1 d1 hv (hl.2.2 _ _ h) (kk p e s m args below meth c C X H locs ls hR hS hl)
  · exact lv_aloadN C.1 C.2.1 d1 (hl.2.2 _ _ h) (kk p e s m args below meth c C X H locs ls hR hS hl)
  · exact lv_aload C.1 C.2.1 d1 (hl.2.2 _ _ h) (kk p e s m args below meth c C X H locs ls hR hS hl)
theorem V_istore {i : Nat} {x : Int32} (d : Distore μ.2.1 pc i pc') (hi : i < lv.length) (hn : i < μ.2.2.1) (hp : ∀ j, j + 1 = i → noL (lv.getD j none)) (kk : V l D A Rm μ K k n z t I R J B pc' (lv.set i (some (.int x))) st) : V l D A Rm μ K k n z t I R J B pc lv (.int x :: st) := by
  intro p e s m args below meth c C X H locs ls hR hS hl
  rcases d with ⟨q, d1, hv, rfl⟩ | ⟨d1, rfl⟩
  · exact lv_istore_n C.1 C.2.1 d1 hv hl.has hn rfl (fun ls' h' => kk p e s m args below meth c C X H locs ls' hR hS (lp.set (ls := ls) h' hp hi))
  · exact lv_istore C.1 C.2.1 d1 hl.has hn rfl (fun ls' h' => kk p e s m args below meth c C X H locs ls' hR hS (lp.set (ls := ls) h' hp hi))
theorem V_astore {i : Nat} {r : Option Nat} (d : Dastore μ.2.1 pc i pc') (hi : i < lv.length) (hn : i < μ.2.2.1) (hp : ∀ j, j + 1 = i → noL (lv.getD j none)) (kk : V l D A Rm μ K k n z t I R J B pc' (lv.set i (some (va_rf r))) st) : V l D A Rm μ K k n z t I R J B pc lv (va_rf r :: st) := by
  intro p e s m args below meth c C X H locs ls hR hS hl
  rcases d with ⟨q, d1, hv, rfl⟩ | ⟨d1, rfl⟩ <;> cases r
  · exact lv_astore_nN C.1 C.2.1 d1 hv hl.has hn rfl (fun ls' h' => kk p e s m args below meth c C X H locs ls' hR hS (lp.set (ls := ls) h' hp hi))
  · exact lv_astore_n C.1 C.2.1 d1 hv hl.has hn rfl (fun ls' h' => kk p e s m args below meth c C X H locs ls' hR hS (lp.set (ls := ls) h' hp hi))
  · exact lv_astoreN C.1 C.2.1 d1 hl.has hn rfl (fun ls' h' => kk p e s m args below meth c C X H locs ls' hR hS (lp.set (ls := ls) h' hp hi))
  · exact lv_astore C.1 C.2.1 d1 hl.has hn rfl (fun ls' h' => kk p e s m args below meth c C X H locs ls' hR hS (lp.set (ls := ls) h' hp hi))
theorem V_iinc {i : Nat} {x v : Int32} (d : Diinc μ.2.1 pc i v pc') (h : lv[i]? = some (some (.int x))) (hn : i < μ.2.2.1) (hp : ∀ j, j + 1 = i → noL (lv.getD j none)) (kk : V l D A Rm μ K k n z t I R J B pc' (lv.set i (some (.int (x + v)))) st) : V l D A Rm μ K k n z t I R J B pc lv st := by
  intro p e s m args below meth c C X H locs ls hR hS hl
  obtain ⟨q, d1, rfl, rfl⟩ := d
  obtain ⟨j, hj⟩ := List.getElem?_of_mem (lassoc_mem.mpr h)
  exact lv_iinc C.1 C.2.1 d1 hl.has hj rfl hn rfl (fun ls' h' => kk p e s m args below meth c C X H locs ls' hR hS (lp.set (ls := ls) h' hp (List.getElem?_eq_some_iff.mp h).1))
theorem lp.pset {ls' : Array Slot} {nL i : Nat} {v : Value} {lv : List (Option Value)} (h : lv_has ls' nL ((i, v) :: (lassoc lv).filter (fun q => !(q.1 == i) && !(q.1 + 1 == i && q.2.category == 2)))) (hp : ∀ j, j + 1 = i → noL (lv.getD j none)) (hi : i < lv.length) : lp ls' nL (lv.set i (some v)) := lp.set (ls := ls') h hp hi
theorem V_is0 {x : Int32} {a0 : Option Value} {tl : List (Option Value)} (d : Distore μ.2.1 pc 0 pc') (hn : 0 < μ.2.2.1) (kk : V l D A Rm μ K k n z t I R J B pc' (some (.int x) :: tl) st) : V l D A Rm μ K k n z t I R J B pc (a0 :: tl) (.int x :: st) := V_istore d (by simp only [List.length_cons]; omega) hn (fun j hj => absurd hj (by omega)) kk
theorem V_as0 {r : Option Nat} {a0 : Option Value} {tl : List (Option Value)} (d : Dastore μ.2.1 pc 0 pc') (hn : 0 < μ.2.2.1) (kk : V l D A Rm μ K k n z t I R J B pc' (some (va_rf r) :: tl) st) : V l D A Rm μ K k n z t I R J B pc (a0 :: tl) (va_rf r :: st) := V_astore d (by simp only [List.length_cons]; omega) hn (fun j hj => absurd hj (by omega)) kk
theorem V_ii0 {x v : Int32} {tl : List (Option Value)} (d : Diinc μ.2.1 pc 0 v pc') (hn : 0 < μ.2.2.1) (kk : V l D A Rm μ K k n z t I R J B pc' (some (.int (x + v)) :: tl) st) : V l D A Rm μ K k n z t I R J B pc (some (.int x) :: tl) st := V_iinc d rfl hn (fun j hj => absurd hj (by omega)) kk
theorem V_is1 {x : Int32} {a0 a1 : Option Value} {tl : List (Option Value)} (d : Distore μ.2.1 pc 1 pc') (hn : 1 < μ.2.2.1) (hc : noL a0) (kk : V l D A Rm μ K k n z t I R J B pc' (a0 :: some (.int x) :: tl) st) : V l D A Rm μ K k n z t I R J B pc (a0 :: a1 :: tl) (.int x :: st) := V_istore d (by simp only [List.length_cons]; omega) hn (fun j hj => by cases (show j = 0 by omega); exact hc) kk
theorem V_as1 {r : Option Nat} {a0 a1 : Option Value} {tl : List (Option Value)} (d : Dastore μ.2.1 pc 1 pc') (hn : 1 < μ.2.2.1) (hc : noL a0) (kk : V l D A Rm μ K k n z t I R J B pc' (a0 :: some (va_rf r) :: tl) st) : V l D A Rm μ K k n z t I R J B pc (a0 :: a1 :: tl) (va_rf r :: st) := V_astore d (by simp only [List.length_cons]; omega) hn (fun j hj => by cases (show j = 0 by omega); exact hc) kk
theorem V_ii1 {x v : Int32} {a0 : Option Value} {tl : List (Option Value)} (d : Diinc μ.2.1 pc 1 v pc') (hn : 1 < μ.2.2.1) (hc : noL a0) (kk : V l D A Rm μ K k n z t I R J B pc' (a0 :: some (.int (x + v)) :: tl) st) : V l D A Rm μ K k n z t I R J B pc (a0 :: some (.int x) :: tl) st := V_iinc d rfl hn (fun j hj => by cases (show j = 0 by omega); exact hc) kk
theorem V_is2 {x : Int32} {a0 a1 a2 : Option Value} {tl : List (Option Value)} (d : Distore μ.2.1 pc 2 pc') (hn : 2 < μ.2.2.1) (hc : noL a1) (kk : V l D A Rm μ K k n z t I R J B pc' (a0 :: a1 :: some (.int x) :: tl) st) : V l D A Rm μ K k n z t I R J B pc (a0 :: a1 :: a2 :: tl) (.int x :: st) := V_istore d (by simp only [List.length_cons]; omega) hn (fun j hj => by cases (show j = 1 by omega); exact hc) kk
theorem V_as2 {r : Option Nat} {a0 a1 a2 : Option Value} {tl : List (Option Value)} (d : Dastore μ.2.1 pc 2 pc') (hn : 2 < μ.2.2.1) (hc : noL a1) (kk : V l D A Rm μ K k n z t I R J B pc' (a0 :: a1 :: some (va_rf r) :: tl) st) : V l D A Rm μ K k n z t I R J B pc (a0 :: a1 :: a2 :: tl) (va_rf r :: st) := V_astore d (by simp only [List.length_cons]; omega) hn (fun j hj => by cases (show j = 1 by omega); exact hc) kk
theorem V_ii2 {x v : Int32} {a0 a1 : Option Value} {tl : List (Option Value)} (d : Diinc μ.2.1 pc 2 v pc') (hn : 2 < μ.2.2.1) (hc : noL a1) (kk : V l D A Rm μ K k n z t I R J B pc' (a0 :: a1 :: some (.int (x + v)) :: tl) st) : V l D A Rm μ K k n z t I R J B pc (a0 :: a1 :: some (.int x) :: tl) st := V_iinc d rfl hn (fun j hj => by cases (show j = 1 by omega); exact hc) kk
theorem V_is3 {x : Int32} {a0 a1 a2 a3 : Option Value} {tl : List (Option Value)} (d : Distore μ.2.1 pc 3 pc') (hn : 3 < μ.2.2.1) (hc : noL a2) (kk : V l D A Rm μ K k n z t I R J B pc' (a0 :: a1 :: a2 :: some (.int x) :: tl) st) : V l D A Rm μ K k n z t I R J B pc (a0 :: a1 :: a2 :: a3 :: tl) (.int x :: st) := V_istore d (by simp only [List.length_cons]; omega) hn (fun j hj => by cases (show j = 2 by omega); exact hc) kk
theorem V_as3 {r : Option Nat} {a0 a1 a2 a3 : Option Value} {tl : List (Option Value)} (d : Dastore μ.2.1 pc 3 pc') (hn : 3 < μ.2.2.1) (hc : noL a2) (kk : V l D A Rm μ K k n z t I R J B pc' (a0 :: a1 :: a2 :: some (va_rf r) :: tl) st) : V l D A Rm μ K k n z t I R J B pc (a0 :: a1 :: a2 :: a3 :: tl) (va_rf r :: st) := V_astore d (by simp only [List.length_cons]; omega) hn (fun j hj => by cases (show j = 2 by omega); exact hc) kk
theorem V_ii3 {x v : Int32} {a0 a1 a2 : Option Value} {tl : List (Option Value)} (d : Diinc μ.2.1 pc 3 v pc') (hn : 3 < μ.2.2.1) (hc : noL a2) (kk : V l D A Rm μ K k n z t I R J B pc' (a0 :: a1 :: a2 :: some (.int (x + v)) :: tl) st) : V l D A Rm μ K k n z t I R J B pc (a0 :: a1 :: a2 :: some (.int x) :: tl) st := V_iinc d rfl hn (fun j hj => by cases (show j = 2 by omega); exact hc) kk
theorem V_is4 {x : Int32} {a0 a1 a2 a3 a4 : Option Value} {tl : List (Option Value)} (d : Distore μ.2.1 pc 4 pc') (hn : 4 < μ.2.2.1) (hc : noL a3) (kk : V l D A Rm μ K k n z t I R J B pc' (a0 :: a1 :: a2 :: a3 :: some (.int x) :: tl) st) : V l D A Rm μ K k n z t I R J B pc (a0 :: a1 :: a2 :: a3 :: a4 :: tl) (.int x :: st) := V_istore d (by simp only [List.length_cons]; omega) hn (fun j hj => by cases (show j = 3 by omega); exact hc) kk
theorem V_as4 {r : Option Nat} {a0 a1 a2 a3 a4 : Option Value} {tl : List (Option Value)} (d : Dastore μ.2.1 pc 4 pc') (hn : 4 < μ.2.2.1) (hc : noL a3) (kk : V l D A Rm μ K k n z t I R J B pc' (a0 :: a1 :: a2 :: a3 :: some (va_rf r) :: tl) st) : V l D A Rm μ K k n z t I R J B pc (a0 :: a1 :: a2 :: a3 :: a4 :: tl) (va_rf r :: st) := V_astore d (by simp only [List.length_cons]; omega) hn (fun j hj => by cases (show j = 3 by omega); exact hc) kk
theorem V_ii4 {x v : Int32} {a0 a1 a2 a3 : Option Value} {tl : List (Option Value)} (d : Diinc μ.2.1 pc 4 v pc') (hn : 4 < μ.2.2.1) (hc : noL a3) (kk : V l D A Rm μ K k n z t I R J B pc' (a0 :: a1 :: a2 :: a3 :: some (.int (x + v)) :: tl) st) : V l D A Rm μ K k n z t I R J B pc (a0 :: a1 :: a2 :: a3 :: some (.int x) :: tl) st := V_iinc d rfl hn (fun j hj => by cases (show j = 3 by omega); exact hc) kk
theorem V_is5 {x : Int32} {a0 a1 a2 a3 a4 a5 : Option Value} {tl : List (Option Value)} (d : Distore μ.2.1 pc 5 pc') (hn : 5 < μ.2.2.1) (hc : noL a4) (kk : V l D A Rm μ K k n z t I R J B pc' (a0 :: a1 :: a2 :: a3 :: a4 :: some (.int x) :: tl) st) : V l D A Rm μ K k n z t I R J B pc (a0 :: a1 :: a2 :: a3 :: a4 :: a5 :: tl) (.int x :: st) := V_istore d (by simp only [List.length_cons]; omega) hn (fun j hj => by cases (show j = 4 by omega); exact hc) kk
theorem V_as5 {r : Option Nat} {a0 a1 a2 a3 a4 a5 : Option Value} {tl : List (Option Value)} (d : Dastore μ.2.1 pc 5 pc') (hn : 5 < μ.2.2.1) (hc : noL a4) (kk : V l D A Rm μ K k n z t I R J B pc' (a0 :: a1 :: a2 :: a3 :: a4 :: some (va_rf r) :: tl) st) : V l D A Rm μ K k n z t I R J B pc (a0 :: a1 :: a2 :: a3 :: a4 :: a5 :: tl) (va_rf r :: st) := V_astore d (by simp only [List.length_cons]; omega) hn (fun j hj => by cases (show j = 4 by omega); exact hc) kk
theorem V_ii5 {x v : Int32} {a0 a1 a2 a3 a4 : Option Value} {tl : List (Option Value)} (d : Diinc μ.2.1 pc 5 v pc') (hn : 5 < μ.2.2.1) (hc : noL a4) (kk : V l D A Rm μ K k n z t I R J B pc' (a0 :: a1 :: a2 :: a3 :: a4 :: some (.int (x + v)) :: tl) st) : V l D A Rm μ K k n z t I R J B pc (a0 :: a1 :: a2 :: a3 :: a4 :: some (.int x) :: tl) st := V_iinc d rfl hn (fun j hj => by cases (show j = 4 by omega); exact hc) kk
theorem V_is6 {x : Int32} {a0 a1 a2 a3 a4 a5 a6 : Option Value} {tl : List (Option Value)} (d : Distore μ.2.1 pc 6 pc') (hn : 6 < μ.2.2.1) (hc : noL a5) (kk : V l D A Rm μ K k n z t I R J B pc' (a0 :: a1 :: a2 :: a3 :: a4 :: a5 :: some (.int x) :: tl) st) : V l D A Rm μ K k n z t I R J B pc (a0 :: a1 :: a2 :: a3 :: a4 :: a5 :: a6 :: tl) (.int x :: st) := V_istore d (by simp only [List.length_cons]; omega) hn (fun j hj => by cases (show j = 5 by omega); exact hc) kk
theorem V_as6 {r : Option Nat} {a0 a1 a2 a3 a4 a5 a6 : Option Value} {tl : List (Option Value)} (d : Dastore μ.2.1 pc 6 pc') (hn : 6 < μ.2.2.1) (hc : noL a5) (kk : V l D A Rm μ K k n z t I R J B pc' (a0 :: a1 :: a2 :: a3 :: a4 :: a5 :: some (va_rf r) :: tl) st) : V l D A Rm μ K k n z t I R J B pc (a0 :: a1 :: a2 :: a3 :: a4 :: a5 :: a6 :: tl) (va_rf r :: st) := V_astore d (by simp only [List.length_cons]; omega) hn (fun j hj => by cases (show j = 5 by omega); exact hc) kk
theorem V_ii6 {x v : Int32} {a0 a1 a2 a3 a4 a5 : Option Value} {tl : List (Option Value)} (d : Diinc μ.2.1 pc 6 v pc') (hn : 6 < μ.2.2.1) (hc : noL a5) (kk : V l D A Rm μ K k n z t I R J B pc' (a0 :: a1 :: a2 :: a3 :: a4 :: a5 :: some (.int (x + v)) :: tl) st) : V l D A Rm μ K k n z t I R J B pc (a0 :: a1 :: a2 :: a3 :: a4 :: a5 :: some (.int x) :: tl) st := V_iinc d rfl hn (fun j hj => by cases (show j = 5 by omega); exact hc) kk
theorem V_is7 {x : Int32} {a0 a1 a2 a3 a4 a5 a6 a7 : Option Value} {tl : List (Option Value)} (d : Distore μ.2.1 pc 7 pc') (hn : 7 < μ.2.2.1) (hc : noL a6) (kk : V l D A Rm μ K k n z t I R J B pc' (a0 :: a1 :: a2 :: a3 :: a4 :: a5 :: a6 :: some (.int x) :: tl) st) : V l D A Rm μ K k n z t I R J B pc (a0 :: a1 :: a2 :: a3 :: a4 :: a5 :: a6 :: a7 :: tl) (.int x :: st) := V_istore d (by simp only [List.length_cons]; omega) hn (fun j hj => by cases (show j = 6 by omega); exact hc) kk
theorem V_as7 {r : Option Nat} {a0 a1 a2 a3 a4 a5 a6 a7 : Option Value} {tl : List (Option Value)} (d : Dastore μ.2.1 pc 7 pc') (hn : 7 < μ.2.2.1) (hc : noL a6) (kk : V l D A Rm μ K k n z t I R J B pc' (a0 :: a1 :: a2 :: a3 :: a4 :: a5 :: a6 :: some (va_rf r) :: tl) st) : V l D A Rm μ K k n z t I R J B pc (a0 :: a1 :: a2 :: a3 :: a4 :: a5 :: a6 :: a7 :: tl) (va_rf r :: st) := V_astore d (by simp only [List.length_cons]; omega) hn (fun j hj => by cases (show j = 6 by omega); exact hc) kk
theorem V_ii7 {x v : Int32} {a0 a1 a2 a3 a4 a5 a6 : Option Value} {tl : List (Option Value)} (d : Diinc μ.2.1 pc 7 v pc') (hn : 7 < μ.2.2.1) (hc : noL a6) (kk : V l D A Rm μ K k n z t I R J B pc' (a0 :: a1 :: a2 :: a3 :: a4 :: a5 :: a6 :: some (.int (x + v)) :: tl) st) : V l D A Rm μ K k n z t I R J B pc (a0 :: a1 :: a2 :: a3 :: a4 :: a5 :: a6 :: some (.int x) :: tl) st := V_iinc d rfl hn (fun j hj => by cases (show j = 6 by omega); exact hc) kk
theorem V_is8 {x : Int32} {a0 a1 a2 a3 a4 a5 a6 a7 a8 : Option Value} {tl : List (Option Value)} (d : Distore μ.2.1 pc 8 pc') (hn : 8 < μ.2.2.1) (hc : noL a7) (kk : V l D A Rm μ K k n z t I R J B pc' (a0 :: a1 :: a2 :: a3 :: a4 :: a5 :: a6 :: a7 :: some (.int x) :: tl) st) : V l D A Rm μ K k n z t I R J B pc (a0 :: a1 :: a2 :: a3 :: a4 :: a5 :: a6 :: a7 :: a8 :: tl) (.int x :: st) := V_istore d (by simp only [List.length_cons]; omega) hn (fun j hj => by cases (show j = 7 by omega); exact hc) kk
theorem V_as8 {r : Option Nat} {a0 a1 a2 a3 a4 a5 a6 a7 a8 : Option Value} {tl : List (Option Value)} (d : Dastore μ.2.1 pc 8 pc') (hn : 8 < μ.2.2.1) (hc : noL a7) (kk : V l D A Rm μ K k n z t I R J B pc' (a0 :: a1 :: a2 :: a3 :: a4 :: a5 :: a6 :: a7 :: some (va_rf r) :: tl) st) : V l D A Rm μ K k n z t I R J B pc (a0 :: a1 :: a2 :: a3 :: a4 :: a5 :: a6 :: a7 :: a8 :: tl) (va_rf r :: st) := V_astore d (by simp only [List.length_cons]; omega) hn (fun j hj => by cases (show j = 7 by omega); exact hc) kk
theorem V_ii8 {x v : Int32} {a0 a1 a2 a3 a4 a5 a6 a7 : Option Value} {tl : List (Option Value)} (d : Diinc μ.2.1 pc 8 v pc') (hn : 8 < μ.2.2.1) (hc : noL a7) (kk : V l D A Rm μ K k n z t I R J B pc' (a0 :: a1 :: a2 :: a3 :: a4 :: a5 :: a6 :: a7 :: some (.int (x + v)) :: tl) st) : V l D A Rm μ K k n z t I R J B pc (a0 :: a1 :: a2 :: a3 :: a4 :: a5 :: a6 :: a7 :: some (.int x) :: tl) st := V_iinc d rfl hn (fun j hj => by cases (show j = 7 by omega); exact hc) kk
theorem V_is9 {x : Int32} {a0 a1 a2 a3 a4 a5 a6 a7 a8 a9 : Option Value} {tl : List (Option Value)} (d : Distore μ.2.1 pc 9 pc') (hn : 9 < μ.2.2.1) (hc : noL a8) (kk : V l D A Rm μ K k n z t I R J B pc' (a0 :: a1 :: a2 :: a3 :: a4 :: a5 :: a6 :: a7 :: a8 :: some (.int x) :: tl) st) : V l D A Rm μ K k n z t I R J B pc (a0 :: a1 :: a2 :: a3 :: a4 :: a5 :: a6 :: a7 :: a8 :: a9 :: tl) (.int x :: st) := V_istore d (by simp only [List.length_cons]; omega) hn (fun j hj => by cases (show j = 8 by omega); exact hc) kk
theorem V_as9 {r : Option Nat} {a0 a1 a2 a3 a4 a5 a6 a7 a8 a9 : Option Value} {tl : List (Option Value)} (d : Dastore μ.2.1 pc 9 pc') (hn : 9 < μ.2.2.1) (hc : noL a8) (kk : V l D A Rm μ K k n z t I R J B pc' (a0 :: a1 :: a2 :: a3 :: a4 :: a5 :: a6 :: a7 :: a8 :: some (va_rf r) :: tl) st) : V l D A Rm μ K k n z t I R J B pc (a0 :: a1 :: a2 :: a3 :: a4 :: a5 :: a6 :: a7 :: a8 :: a9 :: tl) (va_rf r :: st) := V_astore d (by simp only [List.length_cons]; omega) hn (fun j hj => by cases (show j = 8 by omega); exact hc) kk
theorem V_ii9 {x v : Int32} {a0 a1 a2 a3 a4 a5 a6 a7 a8 : Option Value} {tl : List (Option Value)} (d : Diinc μ.2.1 pc 9 v pc') (hn : 9 < μ.2.2.1) (hc : noL a8) (kk : V l D A Rm μ K k n z t I R J B pc' (a0 :: a1 :: a2 :: a3 :: a4 :: a5 :: a6 :: a7 :: a8 :: some (.int (x + v)) :: tl) st) : V l D A Rm μ K k n z t I R J B pc (a0 :: a1 :: a2 :: a3 :: a4 :: a5 :: a6 :: a7 :: a8 :: some (.int x) :: tl) st := V_iinc d rfl hn (fun j hj => by cases (show j = 8 by omega); exact hc) kk
theorem V_is10 {x : Int32} {a0 a1 a2 a3 a4 a5 a6 a7 a8 a9 a10 : Option Value} {tl : List (Option Value)} (d : Distore μ.2.1 pc 10 pc') (hn : 10 < μ.2.2.1) (hc : noL a9) (kk : V l D A Rm μ K k n z t I R J B pc' (a0 :: a1 :: a2 :: a3 :: a4 :: a5 :: a6 :: a7 :: a8 :: a9 :: some (.int x) :: tl) st) : V l D A Rm μ K k n z t I R J B pc (a0 :: a1 :: a2 :: a3 :: a4 :: a5 :: a6 :: a7 :: a8 :: a9 :: a10 :: tl) (.int x :: st) := V_istore d (by simp only [List.length_cons]; omega) hn (fun j hj => by cases (show j = 9 by omega); exact hc) kk
theorem V_as10 {r : Option Nat} {a0 a1 a2 a3 a4 a5 a6 a7 a8 a9 a10 : Option Value} {tl : List (Option Value)} (d : Dastore μ.2.1 pc 10 pc') (hn : 10 < μ.2.2.1) (hc : noL a9) (kk : V l D A Rm μ K k n z t I R J B pc' (a0 :: a1 :: a2 :: a3 :: a4 :: a5 :: a6 :: a7 :: a8 :: a9 :: some (va_rf r) :: tl) st) : V l D A Rm μ K k n z t I R J B pc (a0 :: a1 :: a2 :: a3 :: a4 :: a5 :: a6 :: a7 :: a8 :: a9 :: a10 :: tl) (va_rf r :: st) := V_astore d (by simp only [List.length_cons]; omega) hn (fun j hj => by cases (show j = 9 by omega); exact hc) kk
theorem V_ii10 {x v : Int32} {a0 a1 a2 a3 a4 a5 a6 a7 a8 a9 : Option Value} {tl : List (Option Value)} (d : Diinc μ.2.1 pc 10 v pc') (hn : 10 < μ.2.2.1) (hc : noL a9) (kk : V l D A Rm μ K k n z t I R J B pc' (a0 :: a1 :: a2 :: a3 :: a4 :: a5 :: a6 :: a7 :: a8 :: a9 :: some (.int (x + v)) :: tl) st) : V l D A Rm μ K k n z t I R J B pc (a0 :: a1 :: a2 :: a3 :: a4 :: a5 :: a6 :: a7 :: a8 :: a9 :: some (.int x) :: tl) st := V_iinc d rfl hn (fun j hj => by cases (show j = 9 by omega); exact hc) kk
theorem V_is11 {x : Int32} {a0 a1 a2 a3 a4 a5 a6 a7 a8 a9 a10 a11 : Option Value} {tl : List (Option Value)} (d : Distore μ.2.1 pc 11 pc') (hn : 11 < μ.2.2.1) (hc : noL a10) (kk : V l D A Rm μ K k n z t I R J B pc' (a0 :: a1 :: a2 :: a3 :: a4 :: a5 :: a6 :: a7 :: a8 :: a9 :: a10 :: some (.int x) :: tl) st) : V l D A Rm μ K k n z t I R J B pc (a0 :: a1 :: a2 :: a3 :: a4 :: a5 :: a6 :: a7 :: a8 :: a9 :: a10 :: a11 :: tl) (.int x :: st) := V_istore d (by simp only [List.length_cons]; omega) hn (fun j hj => by cases (show j = 10 by omega); exact hc) kk
theorem V_as11 {r : Option Nat} {a0 a1 a2 a3 a4 a5 a6 a7 a8 a9 a10 a11 : Option Value} {tl : List (Option Value)} (d : Dastore μ.2.1 pc 11 pc') (hn : 11 < μ.2.2.1) (hc : noL a10) (kk : V l D A Rm μ K k n z t I R J B pc' (a0 :: a1 :: a2 :: a3 :: a4 :: a5 :: a6 :: a7 :: a8 :: a9 :: a10 :: some (va_rf r) :: tl) st) : V l D A Rm μ K k n z t I R J B pc (a0 :: a1 :: a2 :: a3 :: a4 :: a5 :: a6 :: a7 :: a8 :: a9 :: a10 :: a11 :: tl) (va_rf r :: st) := V_astore d (by simp only [List.length_cons]; omega) hn (fun j hj => by cases (show j = 10 by omega); exact hc) kk
theorem V_ii11 {x v : Int32} {a0 a1 a2 a3 a4 a5 a6 a7 a8 a9 a10 : Option Value} {tl : List (Option Value)} (d : Diinc μ.2.1 pc 11 v pc') (hn : 11 < μ.2.2.1) (hc : noL a10) (kk : V l D A Rm μ K k n z t I R J B pc' (a0 :: a1 :: a2 :: a3 :: a4 :: a5 :: a6 :: a7 :: a8 :: a9 :: a10 :: some (.int (x + v)) :: tl) st) : V l D A Rm μ K k n z t I R J B pc (a0 :: a1 :: a2 :: a3 :: a4 :: a5 :: a6 :: a7 :: a8 :: a9 :: a10 :: some (.int x) :: tl) st := V_iinc d rfl hn (fun j hj => by cases (show j = 10 by omega); exact hc) kk
theorem V_is12 {x : Int32} {a0 a1 a2 a3 a4 a5 a6 a7 a8 a9 a10 a11 a12 : Option Value} {tl : List (Option Value)} (d : Distore μ.2.1 pc 12 pc') (hn : 12 < μ.2.2.1) (hc : noL a11) (kk : V l D A Rm μ K k n z t I R J B pc' (a0 :: a1 :: a2 :: a3 :: a4 :: a5 :: a6 :: a7 :: a8 :: a9 :: a10 :: a11 :: some (.int x) :: tl) st) : V l D A Rm μ K k n z t I R J B pc (a0 :: a1 :: a2 :: a3 :: a4 :: a5 :: a6 :: a7 :: a8 :: a9 :: a10 :: a11 :: a12 :: tl) (.int x :: st) := V_istore d (by simp only [List.length_cons]; omega) hn (fun j hj => by cases (show j = 11 by omega); exact hc) kk
theorem V_as12 {r : Option Nat} {a0 a1 a2 a3 a4 a5 a6 a7 a8 a9 a10 a11 a12 : Option Value} {tl : List (Option Value)} (d : Dastore μ.2.1 pc 12 pc') (hn : 12 < μ.2.2.1) (hc : noL a11) (kk : V l D A Rm μ K k n z t I R J B pc' (a0 :: a1 :: a2 :: a3 :: a4 :: a5 :: a6 :: a7 :: a8 :: a9 :: a10 :: a11 :: some (va_rf r) :: tl) st) : V l D A Rm μ K k n z t I R J B pc (a0 :: a1 :: a2 :: a3 :: a4 :: a5 :: a6 :: a7 :: a8 :: a9 :: a10 :: a11 :: a12 :: tl) (va_rf r :: st) := V_astore d (by simp only [List.length_cons]; omega) hn (fun j hj => by cases (show j = 11 by omega); exact hc) kk
theorem V_ii12 {x v : Int32} {a0 a1 a2 a3 a4 a5 a6 a7 a8 a9 a10 a11 : Option Value} {tl : List (Option Value)} (d : Diinc μ.2.1 pc 12 v pc') (hn : 12 < μ.2.2.1) (hc : noL a11) (kk : V l D A Rm μ K k n z t I R J B pc' (a0 :: a1 :: a2 :: a3 :: a4 :: a5 :: a6 :: a7 :: a8 :: a9 :: a10 :: a11 :: some (.int (x + v)) :: tl) st) : V l D A Rm μ K k n z t I R J B pc (a0 :: a1 :: a2 :: a3 :: a4 :: a5 :: a6 :: a7 :: a8 :: a9 :: a10 :: a11 :: some (.int x) :: tl) st := V_iinc d rfl hn (fun j hj => by cases (show j = 11 by omega); exact hc) kk
theorem V_is13 {x : Int32} {a0 a1 a2 a3 a4 a5 a6 a7 a8 a9 a10 a11 a12 a13 : Option Value} {tl : List (Option Value)} (d : Distore μ.2.1 pc 13 pc') (hn : 13 < μ.2.2.1) (hc : noL a12) (kk : V l D A Rm μ K k n z t I R J B pc' (a0 :: a1 :: a2 :: a3 :: a4 :: a5 :: a6 :: a7 :: a8 :: a9 :: a10 :: a11 :: a12 :: some (.int x) :: tl) st) : V l D A Rm μ K k n z t I R J B pc (a0 :: a1 :: a2 :: a3 :: a4 :: a5 :: a6 :: a7 :: a8 :: a9 :: a10 :: a11 :: a12 :: a13 :: tl) (.int x :: st) := V_istore d (by simp only [List.length_cons]; omega) hn (fun j hj => by cases (show j = 12 by omega); exact hc) kk
theorem V_as13 {r : Option Nat} {a0 a1 a2 a3 a4 a5 a6 a7 a8 a9 a10 a11 a12 a13 : Option Value} {tl : List (Option Value)} (d : Dastore μ.2.1 pc 13 pc') (hn : 13 < μ.2.2.1) (hc : noL a12) (kk : V l D A Rm μ K k n z t I R J B pc' (a0 :: a1 :: a2 :: a3 :: a4 :: a5 :: a6 :: a7 :: a8 :: a9 :: a10 :: a11 :: a12 :: some (va_rf r) :: tl) st) : V l D A Rm μ K k n z t I R J B pc (a0 :: a1 :: a2 :: a3 :: a4 :: a5 :: a6 :: a7 :: a8 :: a9 :: a10 :: a11 :: a12 :: a13 :: tl) (va_rf r :: st) := V_astore d (by simp only [List.length_cons]; omega) hn (fun j hj => by cases (show j = 12 by omega); exact hc) kk
theorem V_ii13 {x v : Int32} {a0 a1 a2 a3 a4 a5 a6 a7 a8 a9 a10 a11 a12 : Option Value} {tl : List (Option Value)} (d : Diinc μ.2.1 pc 13 v pc') (hn : 13 < μ.2.2.1) (hc : noL a12) (kk : V l D A Rm μ K k n z t I R J B pc' (a0 :: a1 :: a2 :: a3 :: a4 :: a5 :: a6 :: a7 :: a8 :: a9 :: a10 :: a11 :: a12 :: some (.int (x + v)) :: tl) st) : V l D A Rm μ K k n z t I R J B pc (a0 :: a1 :: a2 :: a3 :: a4 :: a5 :: a6 :: a7 :: a8 :: a9 :: a10 :: a11 :: a12 :: some (.int x) :: tl) st := V_iinc d rfl hn (fun j hj => by cases (show j = 12 by omega); exact hc) kk
theorem V_if_eq {x : Int32} {off : Int} (d : Dj μ.2.1 pc (.ifCond .eq off) off pc' tgt) (kt : x = 0 → V l D A Rm μ K k n z t I R J B tgt lv st) (kf : ¬ x = 0 → V l D A Rm μ K k n z t I R J B pc' lv st) : V l D A Rm μ K k n z t I R J B pc lv (.int x :: st) := by
  intro p e s m args below meth c C X H locs ls hR hS hl
  obtain ⟨d1, rfl, d3⟩ := d
  exact lv_if_eq C.1 C.2.1 d1 d3 (fun q => kt q p e s m args below meth c C X H locs ls hR hS hl) (fun q => kf q p e s m args below meth c C X H locs ls hR hS hl)
theorem V_icmp_eq {x y : Int32} {off : Int} (d : Dj μ.2.1 pc (.if_icmp .eq off) off pc' tgt) (kt : x = y → V l D A Rm μ K k n z t I R J B tgt lv st) (kf : ¬ x = y → V l D A Rm μ K k n z t I R J B pc' lv st) : V l D A Rm μ K k n z t I R J B pc lv (.int y :: .int x :: st) := by
  intro p e s m args below meth c C X H locs ls hR hS hl
  obtain ⟨d1, rfl, d3⟩ := d
  exact lv_icmp_eq C.1 C.2.1 d1 d3 (fun q => kt q p e s m args below meth c C X H locs ls hR hS hl) (fun q => kf q p e s m args below meth c C X H locs ls hR hS hl)
theorem V_if_ne {x : Int32} {off : Int} (d : Dj μ.2.1 pc (.ifCond .ne off) off pc' tgt) (kt : ¬ x = 0 → V l D A Rm μ K k n z t I R J B tgt lv st) (kf : x = 0 → V l D A Rm μ K k n z t I R J B pc' lv st) : V l D A Rm μ K k n z t I R J B pc lv (.int x :: st) := by
  intro p e s m args below meth c C X H locs ls hR hS hl
  obtain ⟨d1, rfl, d3⟩ := d
  exact lv_if_ne C.1 C.2.1 d1 d3 (fun q => kt q p e s m args below meth c C X H locs ls hR hS hl) (fun q => kf q p e s m args below meth c C X H locs ls hR hS hl)
theorem V_icmp_ne {x y : Int32} {off : Int} (d : Dj μ.2.1 pc (.if_icmp .ne off) off pc' tgt) (kt : ¬ x = y → V l D A Rm μ K k n z t I R J B tgt lv st) (kf : x = y → V l D A Rm μ K k n z t I R J B pc' lv st) : V l D A Rm μ K k n z t I R J B pc lv (.int y :: .int x :: st) := by
  intro p e s m args below meth c C X H locs ls hR hS hl
  obtain ⟨d1, rfl, d3⟩ := d
  exact lv_icmp_ne C.1 C.2.1 d1 d3 (fun q => kt q p e s m args below meth c C X H locs ls hR hS hl) (fun q => kf q p e s m args below meth c C X H locs ls hR hS hl)
theorem V_if_lt {x : Int32} {off : Int} (d : Dj μ.2.1 pc (.ifCond .lt off) off pc' tgt) (kt : x < 0 → V l D A Rm μ K k n z t I R J B tgt lv st) (kf : ¬ x < 0 → V l D A Rm μ K k n z t I R J B pc' lv st) : V l D A Rm μ K k n z t I R J B pc lv (.int x :: st) := by
  intro p e s m args below meth c C X H locs ls hR hS hl
  obtain ⟨d1, rfl, d3⟩ := d
  exact lv_if_lt C.1 C.2.1 d1 d3 (fun q => kt q p e s m args below meth c C X H locs ls hR hS hl) (fun q => kf q p e s m args below meth c C X H locs ls hR hS hl)
theorem V_icmp_lt {x y : Int32} {off : Int} (d : Dj μ.2.1 pc (.if_icmp .lt off) off pc' tgt) (kt : x < y → V l D A Rm μ K k n z t I R J B tgt lv st) (kf : ¬ x < y → V l D A Rm μ K k n z t I R J B pc' lv st) : V l D A Rm μ K k n z t I R J B pc lv (.int y :: .int x :: st) := by
  intro p e s m args below meth c C X H locs ls hR hS hl
  obtain ⟨d1, rfl, d3⟩ := d
  exact lv_icmp_lt C.1 C.2.1 d1 d3 (fun q => kt q p e s m args below meth c C X H locs ls hR hS hl) (fun q => kf q p e s m args below meth c C X H locs ls hR hS hl)
theorem V_if_ge {x : Int32} {off : Int} (d : Dj μ.2.1 pc (.ifCond .ge off) off pc' tgt) (kt : 0 ≤ x → V l D A Rm μ K k n z t I R J B tgt lv st) (kf : ¬ 0 ≤ x → V l D A Rm μ K k n z t I R J B pc' lv st) : V l D A Rm μ K k n z t I R J B pc lv (.int x :: st) := by
  intro p e s m args below meth c C X H locs ls hR hS hl
  obtain ⟨d1, rfl, d3⟩ := d
  exact lv_if_ge C.1 C.2.1 d1 d3 (fun q => kt q p e s m args below meth c C X H locs ls hR hS hl) (fun q => kf q p e s m args below meth c C X H locs ls hR hS hl)
theorem V_icmp_ge {x y : Int32} {off : Int} (d : Dj μ.2.1 pc (.if_icmp .ge off) off pc' tgt) (kt : y ≤ x → V l D A Rm μ K k n z t I R J B tgt lv st) (kf : ¬ y ≤ x → V l D A Rm μ K k n z t I R J B pc' lv st) : V l D A Rm μ K k n z t I R J B pc lv (.int y :: .int x :: st) := by
  intro p e s m args below meth c C X H locs ls hR hS hl
  obtain ⟨d1, rfl, d3⟩ := d
  exact lv_icmp_ge C.1 C.2.1 d1 d3 (fun q => kt q p e s m args below meth c C X H locs ls hR hS hl) (fun q => kf q p e s m args below meth c C X H locs ls hR hS hl)
theorem V_if_gt {x : Int32} {off : Int} (d : Dj μ.2.1 pc (.ifCond .gt off) off pc' tgt) (kt : 0 < x → V l D A Rm μ K k n z t I R J B tgt lv st) (kf : ¬ 0 < x → V l D A Rm μ K k n z t I R J B pc' lv st) : V l D A Rm μ K k n z t I R J B pc lv (.int x :: st) := by
  intro p e s m args below meth c C X H locs ls hR hS hl
  obtain ⟨d1, rfl, d3⟩ := d
  exact lv_if_gt C.1 C.2.1 d1 d3 (fun q => kt q p e s m args below meth c C X H locs ls hR hS hl) (fun q => kf q p e s m args below meth c C X H locs ls hR hS hl)
theorem V_icmp_gt {x y : Int32} {off : Int} (d : Dj μ.2.1 pc (.if_icmp .gt off) off pc' tgt) (kt : y < x → V l D A Rm μ K k n z t I R J B tgt lv st) (kf : ¬ y < x → V l D A Rm μ K k n z t I R J B pc' lv st) : V l D A Rm μ K k n z t I R J B pc lv (.int y :: .int x :: st) := by
  intro p e s m args below meth c C X H locs ls hR hS hl
  obtain ⟨d1, rfl, d3⟩ := d
  exact lv_icmp_gt C.1 C.2.1 d1 d3 (fun q => kt q p e s m args below meth c C X H locs ls hR hS hl) (fun q => kf q p e s m args below meth c C X H locs ls hR hS hl)
theorem V_if_le {x : Int32} {off : Int} (d : Dj μ.2.1 pc (.ifCond .le off) off pc' tgt) (kt : x ≤ 0 → V l D A Rm μ K k n z t I R J B tgt lv st) (kf : ¬ x ≤ 0 → V l D A Rm μ K k n z t I R J B pc' lv st) : V l D A Rm μ K k n z t I R J B pc lv (.int x :: st) := by
  intro p e s m args below meth c C X H locs ls hR hS hl
  obtain ⟨d1, rfl, d3⟩ := d
  exact lv_if_le C.1 C.2.1 d1 d3 (fun q => kt q p e s m args below meth c C X H locs ls hR hS hl) (fun q => kf q p e s m args below meth c C X H locs ls hR hS hl)
theorem V_icmp_le {x y : Int32} {off : Int} (d : Dj μ.2.1 pc (.if_icmp .le off) off pc' tgt) (kt : x ≤ y → V l D A Rm μ K k n z t I R J B tgt lv st) (kf : ¬ x ≤ y → V l D A Rm μ K k n z t I R J B pc' lv st) : V l D A Rm μ K k n z t I R J B pc lv (.int y :: .int x :: st) := by
  intro p e s m args below meth c C X H locs ls hR hS hl
  obtain ⟨d1, rfl, d3⟩ := d
  exact lv_icmp_le C.1 C.2.1 d1 d3 (fun q => kt q p e s m args below meth c C X H locs ls hR hS hl) (fun q => kf q p e s m args below meth c C X H locs ls hR hS hl)
theorem V_goto {off : Int} (d : Dj μ.2.1 pc (.goto off) off pc' tgt) (kk : V l D A Rm μ K k n z t I R J B tgt lv st) : V l D A Rm μ K k n z t I R J B pc lv st := by
  intro p e s m args below meth c C X H locs ls hR hS hl
  exact lv_goto C.1 C.2.1 d.1 d.2.2 (kk p e s m args below meth c C X H locs ls hR hS hl)
theorem V_ifnull {r : Option Nat} {off : Int} (d : Dj μ.2.1 pc (.ifnull off) off pc' tgt) (kt : r = none → V l D A Rm μ K k n z t I R J B tgt lv st) (kf : ∀ a, r = some a → V l D A Rm μ K k n z t I R J B pc' lv st) : V l D A Rm μ K k n z t I R J B pc lv (va_rf r :: st) := by
  intro p e s m args below meth c C X H locs ls hR hS hl
  obtain ⟨d1, rfl, d3⟩ := d
  cases r with
  | none => exact lv_ifnullN C.1 C.2.1 d1 d3 (kt rfl p e s m args below meth c C X H locs ls hR hS hl)
  | some a => exact lv_ifnull C.1 C.2.1 d1 (kf a rfl p e s m args below meth c C X H locs ls hR hS hl)
theorem V_ifnonnull {r : Option Nat} {off : Int} (d : Dj μ.2.1 pc (.ifnonnull off) off pc' tgt) (kt : ∀ a, r = some a → V l D A Rm μ K k n z t I R J B tgt lv st) (kf : r = none → V l D A Rm μ K k n z t I R J B pc' lv st) : V l D A Rm μ K k n z t I R J B pc lv (va_rf r :: st) := by
  intro p e s m args below meth c C X H locs ls hR hS hl
  obtain ⟨d1, rfl, d3⟩ := d
  cases r with
  | none => exact lv_ifnonnullN C.1 C.2.1 d1 (kf rfl p e s m args below meth c C X H locs ls hR hS hl)
  | some a => exact lv_ifnonnull C.1 C.2.1 d1 d3 (kt a rfl p e s m args below meth c C X H locs ls hR hS hl)
theorem V_acmp_ne {rx ry : Option Nat} {off : Int} (d : Dj μ.2.1 pc (.if_acmp .ne off) off pc' tgt) (kt : ¬ rx = ry → V l D A Rm μ K k n z t I R J B tgt lv st) (kf : rx = ry → V l D A Rm μ K k n z t I R J B pc' lv st) : V l D A Rm μ K k n z t I R J B pc lv (va_rf ry :: va_rf rx :: st) := by
  intro p e s m args below meth c C X H locs ls hR hS hl
  obtain ⟨d1, rfl, d3⟩ := d
  exact lv_acmp_ne C.1 C.2.1 d1 d3 (fun q => kt q p e s m args below meth c C X H locs ls hR hS hl) (fun q => kf q p e s m args below meth c C X H locs ls hR hS hl)
theorem V_ldc {i : Nat} {v : Int32} (w : Cond.constant μ.1.cls i v ∈ gtb) (d : D2 μ.2.1 pc (.ldc i) pc') (kk : V l D A Rm μ K k n z t I R J B pc' lv (.int v :: st)) : V l D A Rm μ K k n z t I R J B pc lv st := by
  intro p e s m args below meth c C X H locs ls hR hS hl
  obtain ⟨d1, rfl⟩ := d
  exact lv_ldc C.1 C.2.1 C.2.2.2.2.1 (C.2.2.2.2.2.1 _ w) d1 (kk p e s m args below meth c C X H locs ls hR hS hl)
theorem V_ldcw {i : Nat} {v : Int32} (w : Cond.constant μ.1.cls i v ∈ gtb) (d : D3 μ.2.1 pc (.ldc_w i) pc') (kk : V l D A Rm μ K k n z t I R J B pc' lv (.int v :: st)) : V l D A Rm μ K k n z t I R J B pc lv st := by
  intro p e s m args below meth c C X H locs ls hR hS hl
  obtain ⟨d1, rfl⟩ := d
  exact lv_ldcw C.1 C.2.1 C.2.2.2.2.1 (C.2.2.2.2.2.1 _ w) d1 (kk p e s m args below meth c C X H locs ls hR hS hl)
theorem V_ldc2 {i : Nat} {v : Int64} (w : Cond.constantLong μ.1.cls i v ∈ gtb) (d : D3 μ.2.1 pc (.ldc2_w i) pc') (kk : V l D A Rm μ K k n z t I R J B pc' lv (.long v :: st)) : V l D A Rm μ K k n z t I R J B pc lv st := by
  intro p e s m args below meth c C X H locs ls hR hS hl
  obtain ⟨d1, rfl⟩ := d
  exact lv_ldc2 C.1 C.2.1 C.2.2.2.2.1 (C.2.2.2.2.2.1 _ w) d1 (kk p e s m args below meth c C X H locs ls hR hS hl)
end ROWS
