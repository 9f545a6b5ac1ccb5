-- FIELDS, ARRAYS, MAKING, RETURNS, CALLS, over V
section HEAP
variable {l : Launch} {D : va_G} {A : Nat → Prop} {Rm : Room} {μ : Meth} {K : Kx} {k n z : Nat} {t : TT} {I : MI} {R : MR} {J : MI} {B : MR} {pc pc' tgt : Nat} {lv : List (Option Value)} {st : List Value}
theorem Rep.cell {U : State} {H : Heap} (h : Rep D A U z t I R J B H) {a T : Nat} (ht : (t a).1 = T) (h0 : 0 < T) : CellOk D U (t a) (fun f => I f a) (fun f => R f a) (J a) (B a) a H := (h.2.2 a (by omega)).2
theorem Rep.obj {U : State} {H : Heap} (h : Rep D A U z t I R J B H) {a c : Nat} (ht : (t a).1 = c + 1) (hc : c < 13) : va_P D classes [(a, .inr (c, fl c (fun f => I f a) (fun f => R f a)))] H := by
  intro k q hk
  have hz : k < 1 := (List.getElem?_eq_some_iff.mp hk).1
  rw [show k = 0 by omega] at hk
  cases hk
  exact (h.2.2 a (by omega)).2.1 c ht hc
theorem V_getI {idx c j f T a : Nat} (F : FkI μ.1.cls idx c j f T) (d : D3 μ.2.1 pc (.getfield idx) pc') (ht : (t a).1 = T) (kk : V l D A Rm μ K k n z t I R J B pc' lv (.int (I f a) :: st)) : V l D A Rm μ K k n z t I R J B pc lv (va_rf (some a) :: st) := by
  intro p e s m args below meth cd C X H locs ls hR hS hl
  obtain ⟨hc, hk, rfl, rfl, hw, hs⟩ := F
  obtain ⟨d1, rfl⟩ := d
  obtain ⟨hcl, hin, -, -, -, -⟩ := cl_ok c hc
  exact va_get C.1 C.2.1 C.2.2.2.2.2.1 hin C.2.2.2.2.1 hR.1 (hR.obj ht hc) 0 rfl hcl j hk (C.2.2.2.2.2.1 _ hw) (fun _ h => h) (fl_get hs) d1 (kk p e s m args below meth cd C X H locs ls hR hS hl)
theorem V_getR {idx c j f T a : Nat} (F : FkR μ.1.cls idx c j f T) (d : D3 μ.2.1 pc (.getfield idx) pc') (ht : (t a).1 = T) (kk : V l D A Rm μ K k n z t I R J B pc' lv (va_rf (R f a) :: st)) : V l D A Rm μ K k n z t I R J B pc lv (va_rf (some a) :: st) := by
  intro p e s m args below meth cd C X H locs ls hR hS hl
  obtain ⟨hc, hk, rfl, rfl, hw, hs⟩ := F
  obtain ⟨d1, rfl⟩ := d
  obtain ⟨hcl, hin, -, -, -, -⟩ := cl_ok c hc
  exact va_get C.1 C.2.1 C.2.2.2.2.2.1 hin C.2.2.2.2.1 hR.1 (hR.obj ht hc) 0 rfl hcl j hk (C.2.2.2.2.2.1 _ hw) (fun _ h => h) (fl_get hs) d1 (kk p e s m args below meth cd C X H locs ls hR hS hl)
/-- what a write of a field leaves -/
theorem obj_put {U : State} {H1 : Heap} {a c j : Nat} {cell : Cell} {v : Value} {iv iv' : Nat → Int32} {rv rv' : Nat → Option Nat} {jv : Nat → Int32} {bv : Nat → Option Nat} {τ : Nat × Nat} (hK : va_K D classes [] U) {Ts : List Cond} {ar : Array Value} (hts : ∀ w ∈ Ts, w.before ar U = true) (hin : ∀ w ∈ u_ws (Cc c) (Tc c) (Nc c), w ∈ Ts)
    (hc : c < 13) (ht : τ.1 = c + 1) (hk : j < Nc c) (q2 : cell.cls = D.1 c) (q3 : cell.vm = .none) (q4 : ∀ k, k < Nc c → cell.slots[D.2 c k]? = some (vp_V (fl c iv rv) k)) (e1 : H1[a]? = some (cell.setSlot (D.2 c j) v)) (hset : (fl c iv rv).set j v = fl c iv' rv') : CellOk D U τ iv' rv' jv bv a H1 := by
  obtain ⟨hcl, -, hnm, hty, hlen, -⟩ := cl_ok c hc
  have hap := va_apart (own := Cc c) hts hin (yc c) hty hnm hK hcl
  refine ⟨fun c' h1 h2 => ?_, fun h => by omega, fun j h => by omega⟩
  have e : c' = c := by omega
  subst e
  refine ⟨_, hcl, t_OB.to (V := updV (vp_V (fl c' iv rv)) j v) ⟨_, e1, q2, q3, t_set q4 hap hk v⟩ (fun i _ => ?_)⟩
  rw [vp_updV_set (by rw [fl_len, hlen]; exact hk) v i, hset]
theorem V_put {idx c j T a : Nat} {v : Value} {I' : MI} {R' : MR} (hc : c < 13) (hk : j < Nc c) (hT : c + 1 = T) (hw : Cond.fieldLink μ.1.cls idx (Tc c j).1 (Tc c j).2.1 (Tc c j).2.2.1 ∈ gtb) (hfin : (Tc c j).2.2.2 = false ∨ ((Tc c j).2.2.2 = true ∧ μ.1.name = "<init>" ∧ (Tc c j).1 = μ.1.cls)) (hn : narrow (yc c j) v = v) (hfit : fits (yc c j) v = true)
    (hI : ∀ f b, b ≠ a → I' f b = I f b) (hR' : ∀ f b, b ≠ a → R' f b = R f b) (hset : (fl c (fun f => I f a) (fun f => R f a)).set j v = fl c (fun f => I' f a) (fun f => R' f a))
    (d : D3 μ.2.1 pc (.putfield idx) pc') (ht : (t a).1 = T) (kk : V l D A Rm μ K k n z t I' R' J B pc' lv st) : V l D A Rm μ K k n z t I R J B pc lv (v :: va_rf (some a) :: st) := by
  intro p e s m args below meth cd C X H locs ls hR hS hl
  subst hT
  obtain ⟨d1, rfl⟩ := d
  obtain ⟨hx, hb, hml, hr, hown, hts, hlk, hnam, -⟩ := id C
  obtain ⟨hcl, hin, hnm, hty, hlen, -⟩ := cl_ok c hc
  obtain ⟨r, h1, cell, q1, q2, q3, q4⟩ := hR.obj ht hc 0 _ rfl
  have hr' : r = (Cc c, Tc c, Nc c) := Option.some.inj (h1.symm.trans hcl)
  subst hr'
  obtain ⟨hSl, hfc, kC, hkC, hkind⟩ := hR.1.1 c _ hcl
  obtain ⟨cf, kf, fi, f, hi, hsl⟩ := hSl j hk
  have hlay := hts _ (hin _ (u_in_lay hk))
  unfold u_lay at hlay
  have hst := (u_facts hfc hkC (u_lays hts hin hk) hi).1
  have hAa : A a := (hR.2.2 a (by omega)).1.1
  have fin : ∀ H' : Heap, H'[a]? = some (cell.setSlot f.slot v) → H'.size = H.size → (∀ q, q ≠ a → H'[q]? = H[q]?) → W p l e Rm s m args below meth cd H' (locs ++ [⟨a, f.slot⟩]) k n (K.1 below args s) (F0 m (pc + 3) ls st) := by
    intro H' e1 e2 e3
    rw [hsl] at e1
    refine kk p e s m args below meth cd C X H' _ ls (hR.put (a := a) e2 e3 hI hR' (fun _ _ => rfl) (fun _ _ => rfl) ?_) (hS.put e2 e3 hAa) hl
    exact obj_put hR.1 hts hin hc ht hk q2 q3 q4 e1 hset
  rcases hfin with hfin | ⟨hfin, hin2, hdecl⟩
  · rw [if_neg (by rw [hfin]; decide)] at hlay
    have h6 := u_store hfc hkC hkind hlay hi (hty j hk) hn hfit
    exact W.putK hx hb (f := f) ⟨hown, hts _ hw, ⟨_, _, _, hi⟩, hst⟩ (by rw [q2]; exact h6) q1 q3 (by rw [hsl]; exact k2_hasslot (q4 j hk)) rfl rfl d1 fin
  · rw [if_pos hfin] at hlay
    have hcf : m.cls = cf := by
      obtain ⟨_, _, c', _, _, _, -, -, hf', -, -, -, hown2, -⟩ := Cond.laysFinal_spec hlay
      have e1 : c' = cf := by have := hi.symm.trans hf'; simp at this; exact this.1.symm
      rw [hdecl] at hown2
      rw [← e1]; exact Option.some.inj (hown.symm.trans hown2)
    have h6 := u_fits hfc hkC hkind (Or.inr hlay) hi (hty j hk) hn hfit
    exact W.putFinK hx hb hown (hts _ hw) hi hst hcf (hnam.trans hin2) (by rw [q2]; exact h6) q1 q3 (by rw [hsl]; exact k2_hasslot (q4 j hk)) rfl rfl d1 fin
theorem V_putI {idx c j f T a : Nat} {v : Int32} (F : FkI μ.1.cls idx c j f T) (hfin : (Tc c j).2.2.2 = false ∨ ((Tc c j).2.2.2 = true ∧ μ.1.name = "<init>" ∧ (Tc c j).1 = μ.1.cls)) (hn : narrow (yc c j) (.int v) = .int v) (hfit : fits (yc c j) (.int v) = true)
    (d : D3 μ.2.1 pc (.putfield idx) pc') (ht : (t a).1 = T) (kk : V l D A Rm μ K k n z t (up2 I f a v) R J B pc' lv st) : V l D A Rm μ K k n z t I R J B pc lv (.int v :: va_rf (some a) :: st) := by
  obtain ⟨hc, hk, hT, rfl, hw, hs⟩ := F
  refine V_put hc hk hT hw hfin hn hfit (fun g b hb => up2_off _ _ _ _ hb) (fun _ _ _ => rfl) ?_ d ht kk
  rw [fl_setI hs, up2_col]
theorem V_putR {idx c j f T a : Nat} {v : Option Nat} (F : FkR μ.1.cls idx c j f T) (hfin : (Tc c j).2.2.2 = false ∨ ((Tc c j).2.2.2 = true ∧ μ.1.name = "<init>" ∧ (Tc c j).1 = μ.1.cls)) (hn : ∀ v, narrow (yc c j) (va_rf v) = va_rf v) (hfit : ∀ v, fits (yc c j) (va_rf v) = true)
    (d : D3 μ.2.1 pc (.putfield idx) pc') (ht : (t a).1 = T) (kk : V l D A Rm μ K k n z t I (up2 R f a v) J B pc' lv st) : V l D A Rm μ K k n z t I R J B pc lv (va_rf v :: va_rf (some a) :: st) := by
  obtain ⟨hc, hk, hT, rfl, hw, hs⟩ := F
  refine V_put hc hk hT hw hfin (hn v) (hfit v) (fun _ _ _ => rfl) (fun g b hb => up2_off _ _ _ _ hb) ?_ d ht kk
  rw [fl_setR hs, up2_col]
-- arrays
theorem Rep.arr {U : State} {H : Heap} (h : Rep D A U z t I R J B H) {a N : Nat} (ht : t a = (20, N)) : ∃ cA : ClassId, va_P D classes [(a, .inl (cA, N, .inl (J a)))] H ∧ va_K D classes [(cA, .int)] U := by
  obtain ⟨cA, h1, h2⟩ := (h.2.2 a (by rw [ht]; show 20 ≠ 0; decide)).2.2.1 (by rw [ht])
  rw [ht] at h2
  refine ⟨cA, fun k q hk => ?_, h.1.1, fun k q hk => ?_⟩
  · have hz : k < 1 := (List.getElem?_eq_some_iff.mp hk).1
    rw [show k = 0 by omega] at hk
    cases hk
    exact h2
  · have hz : k < 1 := (List.getElem?_eq_some_iff.mp hk).1
    rw [show k = 0 by omega] at hk
    cases hk
    exact h1
theorem Rep.arrq {U : State} {H : Heap} (h : Rep D A U z t I R J B H) {a N j : Nat} (ht : t a = (21 + j, N)) (hj : j < 6) : ∃ cA : ClassId, va_P D classes [(a, .inl (cA, N, .inr (.inr (.inr (.inr (B a))))))] H ∧ va_K D classes [(cA, rty j)] U ∧ rRA U cA j := by
  obtain ⟨cA, h1, h2⟩ := (h.2.2 a (by rw [ht]; show 21 + j ≠ 0; omega)).2.2.2 j (by rw [ht]) hj
  rw [ht] at h2
  refine ⟨cA, fun k q hk => ?_, ⟨h.1.1, fun k q hk => ?_⟩, h1.2⟩
  · have hz : k < 1 := (List.getElem?_eq_some_iff.mp hk).1
    rw [show k = 0 by omega] at hk
    cases hk
    exact h2
  · have hz : k < 1 := (List.getElem?_eq_some_iff.mp hk).1
    rw [show k = 0 by omega] at hk
    cases hk
    exact ⟨h1.1, h1.2.1⟩
theorem V_iald {a N i : Nat} {ix : Int32} (d : D1 μ.2.1 pc .iaload pc') (ht : t a = (20, N)) (hx : ix = nI i) (hi : i < N) (hN : N < 2147483648) (kk : V l D A Rm μ K k n z t I R J B pc' lv (.int (J a i) :: st)) : V l D A Rm μ K k n z t I R J B pc lv (.int ix :: va_rf (some a) :: st) := by
  intro p e s m args below meth cd C X H locs ls hR hS hl
  obtain ⟨d1, rfl⟩ := d
  obtain ⟨cA, hP, hK⟩ := hR.arr ht
  have hc : ix.toNatClampNeg = i := by rw [hx]; exact nI_clamp (by omega)
  refine va_iald C.1 C.2.1 hK hP 0 0 rfl rfl (by rw [hx]; exact vp_in_nI hi (by omega)) d1 ?_
  rw [hc]
  exact kk p e s m args below meth cd C X H locs ls hR hS hl
theorem V_aald {a N i j T : Nat} {ix : Int32} (d : D1 μ.2.1 pc .aaload pc') (hT : 21 + j = T) (hj : j < 6) (ht : t a = (T, N)) (hx : ix = nI i) (hi : i < N) (hN : N < 2147483648) (kk : V l D A Rm μ K k n z t I R J B pc' lv (va_rf (B a i) :: st)) : V l D A Rm μ K k n z t I R J B pc lv (.int ix :: va_rf (some a) :: st) := by
  intro p e s m args below meth cd C X H locs ls hR hS hl
  obtain ⟨d1, rfl⟩ := d
  subst hT
  obtain ⟨cA, hP, hK, hRA⟩ := hR.arrq ht hj
  have hc : ix.toNatClampNeg = i := by rw [hx]; exact nI_clamp (by omega)
  have hlt : ix.toNatClampNeg < N := by rw [hc]; exact hi
  have hin : vp_in ix N := by rw [hx]; exact vp_in_nI hi (by omega)
  refine W.aald (v := va_rf (B a ix.toNatClampNeg)) (ty := rty j) C.1 C.2.1 (hP 0 _ rfl) ((hK.2 0 _ rfl).1 N (fun j => va_rf (B a j))) (by rcases (show j = 0 ∨ j = 1 ∨ j = 2 ∨ j = 3 ∨ j = 4 ∨ j = 5 by omega) with rfl | rfl | rfl | rfl | rfl | rfl <;> rfl) (fun q => by cases q) (by show ¬ (ix < 0 ∨ (arrV _ _ _).slots.size ≤ _); rw [arrV_size]; exact hin) (by show (arrV _ _ _).slots[_]? = _; rw [arrV_read _ _ hlt]) rfl rfl d1 ?_
  rw [hc]
  exact kk p e s m args below meth cd C X H locs ls hR hS hl
theorem V_alen {a N T : Nat} {v : Int32} (d : D1 μ.2.1 pc .arraylength pc') (hT : T = 20 ∨ ∃ j, T = 21 + j ∧ j < 6) (ht : t a = (T, N)) (hv : nI N = v) (kk : V l D A Rm μ K k n z t I R J B pc' lv (.int v :: st)) : V l D A Rm μ K k n z t I R J B pc lv (va_rf (some a) :: st) := by
  intro p e s m args below meth cd C X H locs ls hR hS hl
  obtain ⟨d1, rfl⟩ := d
  rcases hT with rfl | ⟨j, rfl, hj⟩
  · obtain ⟨cA, hP, hK⟩ := hR.arr ht
    exact va_alen C.1 C.2.1 hK hP 0 0 rfl rfl hv d1 (kk p e s m args below meth cd C X H locs ls hR hS hl)
  · obtain ⟨cA, hP, hK, hRA⟩ := hR.arrq ht hj
    exact va_alen C.1 C.2.1 hK hP 0 0 rfl rfl hv d1 (kk p e s m args below meth cd C X H locs ls hR hS hl)
theorem V_iast {a N i : Nat} {ix x : Int32} (d : D1 μ.2.1 pc .iastore pc') (ht : t a = (20, N)) (hx : ix = nI i) (hi : i < N) (hN : N < 2147483648) (kk : V l D A Rm μ K k n z t I R (up2 J a i x) B pc' lv st) : V l D A Rm μ K k n z t I R J B pc lv (.int x :: .int ix :: va_rf (some a) :: st) := by
  intro p e s m args below meth cd C X H locs ls hR hS hl
  obtain ⟨d1, rfl⟩ := d
  obtain ⟨cA, hP, hK⟩ := hR.arr ht
  have hc : ix.toNatClampNeg = i := by rw [hx]; exact nI_clamp (by omega)
  have hAa : A a := (hR.2.2 a (by rw [ht]; show 20 ≠ 0; decide)).1.1
  refine W.iast C.1 C.2.1 (hP 0 _ rfl) ((hK.2 0 _ rfl).1 N (fun j => .int (J a j))) (fun q => by cases q) (by show ¬ (ix < 0 ∨ (arrV _ _ _).slots.size ≤ _); rw [arrV_size, hx]; exact vp_in_nI hi (by omega)) rfl rfl d1 fun H1 e z oq => ?_
  refine kk p _ s m args below meth cd C X H1 _ ls (hR.put (a := a) z oq (fun _ _ _ => rfl) (fun _ _ _ => rfl) (fun b hb => up2_ne _ _ _ hb) (fun _ _ => rfl) ?_) (hS.put z oq hAa) hl
  refine ⟨fun c h => by rw [ht] at h; have h : 20 = c + 1 := h; omega, fun _ => ⟨cA, hK.2 0 _ rfl, ?_⟩, fun j h => by rw [ht] at h; have h : 20 = 21 + j := h; omega⟩
  rw [e, ht, up2_self]
  rw [vp_cell_i, vp_cell_i, arrV_store, hc]
  congr 2
  funext q
  by_cases hq : q = i
  · subst hq
    simp [updV, va_up]
  · simp [updV, va_up, hq]
theorem V_aast {a N i j T b c : Nat} {ix : Int32} (d : D1 μ.2.1 pc .aastore pc') (hT : 21 + j = T) (ht : t a = (T, N)) (hb : (t b).1 = c + 1) (hc' : c < 13) (hj : rty j = .object (Cc c) ∧ j < 6) (hx : ix = nI i) (hi : i < N) (hN : N < 2147483648) (kk : V l D A Rm μ K k n z t I R J (va_up B a (va_up (B a) i (some b))) pc' lv st) : V l D A Rm μ K k n z t I R J B pc lv (va_rf (some b) :: .int ix :: va_rf (some a) :: st) := by
  intro p e s m args below meth cd C X H locs ls hR hS hl
  obtain ⟨d1, rfl⟩ := d
  subst hT
  obtain ⟨cA, hP, hK, hRA⟩ := hR.arrq ht hj.2
  have hc : ix.toNatClampNeg = i := by rw [hx]; exact nI_clamp (by omega)
  have hAa : A a := (hR.2.2 a (by rw [ht]; show 21 + j ≠ 0; omega)).1.1
  have h0 : ¬ ix < 0 := by rw [hx]; exact nI_pos (by omega)
  obtain ⟨hcl, -⟩ := cl_ok c hc'
  obtain ⟨r', hr', cellV, g1, g2, g3, -⟩ := hR.obj hb hc' 0 _ rfl
  have hcls := (hR.1.1 c _ hcl).2
  have hKr := (hK.2 0 _ rfl).2
  have hKr' : va_RA s cA (.object (Cc c)) := by have h9 : va_RA s cA (rty j) := hKr; rw [hj.1] at h9; exact h9
  obtain ⟨kA, comp, k1, k2, k3, -⟩ := hKr'
  have hcomp : comp = D.1 c := Option.some.inj (k3.symm.trans hcls.1)
  subst hcomp
  obtain ⟨kC, hkC, -⟩ := hcls.2
  refine W.aast C.1 C.2.1 (hP 0 _ rfl) (fun q h => by cases h) (fun h => by cases h) k1 k2 rfl hkC ⟨h0, by show _ < (arrV _ _ _).slots.size; rw [arrV_size, hc]; exact hi⟩ g1 (fun q h => by rw [g3] at h; cases h) (by rw [g2]; exact hkC) (by rw [g2]; exact va_assign hcls) rfl rfl d1 fun H1 e z oq => ?_
  refine kk p _ s m args below meth cd C X H1 _ ls (hR.put (a := a) z oq (fun _ _ _ => rfl) (fun _ _ _ => rfl) (fun _ _ => rfl) (fun b hb => va_up_ne _ _ hb) ?_) (hS.put z oq hAa) hl
  refine ⟨fun c h => by rw [ht] at h; have h : 21 + j = c + 1 := h; omega, fun h => by rw [ht] at h; have h : 21 + j = 20 := h; omega, fun j' h h2 => ?_⟩
  rw [ht] at h
  have h : 21 + j = 21 + j' := h
  have ej : j' = j := by omega
  subst ej
  refine ⟨cA, ⟨(hK.2 0 _ rfl).1, hRA⟩, ?_⟩
  rw [e, ht, va_up_self]
  rw [vp_cell_q, vp_cell_q, arrV_store, hc]
  congr 2
  funext q
  by_cases hq : q = i
  · subst hq
    simp [updV, va_up, va_rf]
  · simp [updV, va_up, hq]
theorem V_aasta {a N i b N' : Nat} {ix : Int32} (d : D1 μ.2.1 pc .aastore pc') (ht : t a = (26, N)) (hb : t b = (20, N')) (hx : ix = nI i) (hi : i < N) (hN : N < 2147483648) (kk : V l D A Rm μ K k n z t I R J (va_up B a (va_up (B a) i (some b))) pc' lv st) : V l D A Rm μ K k n z t I R J B pc lv (va_rf (some b) :: .int ix :: va_rf (some a) :: st) := by
  intro p e s m args below meth cd C X H locs ls hR hS hl
  obtain ⟨d1, rfl⟩ := d
  obtain ⟨cA, hP, hK, hRA⟩ := hR.arrq (j := 5) ht (by decide)
  obtain ⟨cI, hPI, hKI⟩ := hR.arr hb
  have hc : ix.toNatClampNeg = i := by rw [hx]; exact nI_clamp (by omega)
  have hAa : A a := (hR.2.2 a (by rw [ht]; show 26 ≠ 0; decide)).1.1
  have h0 : ¬ ix < 0 := by rw [hx]; exact nI_pos (by omega)
  obtain ⟨kA, comp, k1, k2, k3⟩ := hRA.2 rfl
  have hnm : s.vm.findClass (FieldType.array .int).toString = some cI := va_nm_int (hKI.2 0 _ rfl).2
  have hcomp : comp = cI := Option.some.inj (k3.symm.trans hnm)
  subst hcomp
  obtain ⟨kC, hkC, -⟩ := Vm.findClass_spec hnm
  refine W.aast C.1 C.2.1 (hP 0 _ rfl) (fun q h => by cases h) (fun h => by cases h) k1 k2 rfl hkC ⟨h0, by show _ < (arrV _ _ _).slots.size; rw [arrV_size, hc]; exact hi⟩ (hPI 0 _ rfl) (fun q h => by cases h) hkC (va_asg _ _) rfl rfl d1 fun H1 e z oq => ?_
  refine kk p _ s m args below meth cd C X H1 _ ls (hR.put (a := a) z oq (fun _ _ _ => rfl) (fun _ _ _ => rfl) (fun _ _ => rfl) (fun b hb => va_up_ne _ _ hb) ?_) (hS.put z oq hAa) hl
  refine ⟨fun c h => by rw [ht] at h; have h : 26 = c + 1 := h; omega, fun h => by rw [ht] at h; have h : 26 = 20 := h; omega, fun j' h h2 => ?_⟩
  rw [ht] at h
  have h : 26 = 21 + j' := h
  have ej : j' = 5 := by omega
  subst ej
  refine ⟨cA, ⟨(hK.2 0 _ rfl).1, hRA⟩, ?_⟩
  rw [e, ht, va_up_self]
  rw [vp_cell_q, vp_cell_q, arrV_store, hc]
  congr 2
  funext q
  by_cases hq : q = i
  · subst hq
    simp [updV, va_up, va_rf]
  · simp [updV, va_up, hq]
end HEAP
