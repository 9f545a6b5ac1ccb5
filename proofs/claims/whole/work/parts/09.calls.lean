-- MAKING, RETURNS, CALLS, over V
def zI (I : MI) (a : Nat) : MI := fun f b => if b = a then 0 else I f b
def zR (R : MR) (a : Nat) : MR := fun f b => if b = a then none else R f b
theorem zI_self (I : MI) (f a : Nat) : zI I a f a = 0 := if_pos rfl
theorem zI_ne (I : MI) (f : Nat) {a b : Nat} (h : b ≠ a) : zI I a f b = I f b := if_neg h
theorem zR_self (R : MR) (f a : Nat) : zR R a f a = none := if_pos rfl
theorem zR_ne (R : MR) (f : Nat) {a b : Nat} (h : b ≠ a) : zR R a f b = R f b := if_neg h
theorem aoa_moved {u U : State} (hvm : u.vm.Alike U.vm) (h : va_Nw (.arrayOver (.array .int)) u) : va_Nw (.arrayOver (.array .int)) U := by
  obtain ⟨comp, c, k, h1, h2, h3, h4, h5⟩ := arrayOverA_spec h
  obtain ⟨k', hk', he⟩ := hvm.2.2 _ _ h3
  have hi : (U.vm.classes.findIdx? fun (x : Class) => match x.kind with | .array component _ => component == comp | _ => false) = some c := by
    rw [hvm.findIdx?_eq _ (fun _ => rfl)]; exact h2
  have hkind : k'.kind = .array comp (.array .int) := by rw [he]; exact h4
  have f1 : U.vm.findClass (FieldType.array .int).toString = some comp := by rw [hvm.findClass]; exact h1
  have f2 : U.vm.findClass ("[" ++ (FieldType.array .int).toString) = some c := by rw [hvm.findClass]; exact h5
  unfold va_Nw Cond.before Cond.holds
  simp only [Cond.value]
  rw [f1, Option.bind_some]
  refine (congrArg (fun o : Option Nat => (o.bind (fun c => (U.vm.classes[c]?).map fun (k : Class) => match k.kind with | .array _ ty => decide (ty = FieldType.array .int) && decide (U.vm.findClass ("[" ++ (FieldType.array .int).toString) = some c) | _ => false) == some true)) hi).trans ?_
  simp [hk', hkind, f2]
theorem Xt.moved {s U : State} (hW : s.WarmedH U.vm) (h : Xt s) : Xt U := by
  obtain ⟨h1, h2, h3, h4, h5, h6, h7⟩ := h
  refine ⟨fun w hw => ?_, h2.moved hW.alike, h3.moved hW.alike, h4.moved hW.alike, h5.moved hW.alike, h6.moved hW.alike, ?_⟩
  · have h9 := h1 w hw
    simp only [nests, List.mem_cons, List.not_mem_nil, or_false] at hw
    rcases hw with rfl | rfl | rfl | rfl | rfl <;> exact va_Nw.warmM hW h9
  · exact aoa_moved hW.alike h7
theorem Xt.same {u U : State} (e : u.vm = U.vm) (h : Xt u) : Xt U := by
  obtain ⟨h1, h2, h3, h4, h5, h6, h7⟩ := h
  have ha : u.vm.Alike U.vm := by rw [e]; exact Vm.Alike.refl _
  refine ⟨fun w hw => ?_, h2.moved ha, h3.moved ha, h4.moved ha, h5.moved ha, h6.moved ha, ?_⟩
  · have h9 := h1 w hw
    simp only [nests, List.mem_cons, List.not_mem_nil, or_false] at hw
    rcases hw with rfl | rfl | rfl | rfl | rfl <;> exact va_Nw.same rfl e h9
  · exact aoa_moved ha h7
theorem blind {D : va_G} {A : Nat → Prop} {av : List Value} {z : Nat} {t : TT} {I : MI} {R : MR} {J : MI} {B : MR} : FrameBlind (va_Pc av (fun U => Xt U ∧ Rep D A U z t I R J B U.heap)) := by
  intro a U g mk q
  obtain ⟨q0, q1, q2⟩ := q
  exact ⟨q0, Xt.same (u := U) (U := U.calling g mk a) rfl q1, Rep.moved (u := U) (U := U.calling g mk a) (Vm.Alike.refl U.vm) q2⟩
section MAKE
variable {l : Launch} {D : va_G} {A : Nat → Prop} {Rm : Room} {μ : Meth} {K : Kx} {k n z : Nat} {t : TT} {I : MI} {R : MR} {J : MI} {B : MR} {pc pc' tgt : Nat} {lv : List (Option Value)} {st : List Value}
theorem V_new {idx c N T : Nat} (hc : c < 13) (hN : Nc c = N) (hT : c + 1 = T) (w1 : Cond.classLink μ.1.cls idx (Cc c) ∈ gtb) (w2 : Cond.instantiable (Cc c) N ∈ gtb) (w3 : Cond.initialized (Cc c) ∈ gtb) (hA : A z) (h1 : k + 1 ≤ Rm.cells) (h2 : n + N ≤ Rm.slots) (d : D3 μ.2.1 pc (.new idx) pc')
    (kk : V l D A Rm μ K (k + 1) (n + N) (z + 1) (va_up t z (T, 0)) (zI I z) (zR R z) J B pc' lv (va_rf (some z) :: st)) : V l D A Rm μ K k n z t I R J B pc lv st := by
  intro p e s m args below meth cd C X H locs ls hR hS hl
  subst hN; subst hT
  obtain ⟨d1, rfl⟩ := d
  obtain ⟨hcl, hin, hnm, hty, hlen, hsh⟩ := cl_ok c hc
  have hts := C.2.2.2.2.2.1
  have hKn := hR.1.1 c _ hcl
  refine W.newcK C.1 C.2.1 C.2.2.2.2.1 (hts _ w1) (hts _ w2) (hts _ w3) rfl d1 h1 h2 hKn.2.1 rfl fun H1 kC hkC e1 z1 o1 => ?_
  have hz := hR.2.1
  rw [hz] at e1 z1 o1 ⊢
  refine kk p e s m args below meth cd C X H1 locs ls (hR.push hA (by omega) (fun q hq => o1 q hq) (fun b hb => va_up_ne _ _ hb) (fun f b hb => zI_ne _ _ hb) (fun f b hb => zR_ne _ _ hb) (fun _ _ => rfl) (fun _ _ => rfl) ?_) ⟨Nat.le_trans hS.1 (by omega), fun x h1 h2 => (o1 x (by have := hS.1; omega)).trans (hS.2.1 x h1 h2), hS.2.2⟩ hl
  rw [va_up_self]
  refine ⟨fun c' h1 h2 => ?_, fun h => by have h : c + 1 = 20 := h; omega, fun j h => by have h : c + 1 = 21 + j := h; omega⟩
  have h1 : c + 1 = c' + 1 := h1
  have e : c' = c := by omega
  subst e
  refine ⟨_, hcl, (u_born (yc c') hts hin hKn hkC e1 hty).to (fun j hj => ?_)⟩
  rcases hsh j hj with ⟨g1, g2⟩ | ⟨g1, g2⟩
  · rw [g2]; simp [vp_V, fl_get g1, zR_self, va_rf]
  · rw [g2]; simp [vp_V, fl_get g1, zI_self]
theorem V_newa {x : Int32} {N : Nat} (w : Cond.arrayClass .int ∈ gtb) (hx : x = nI N) (hN : N < 100000000) (hA : A z) (h1 : k + 1 ≤ Rm.cells) (h2 : n + N ≤ Rm.slots) (d : D2 μ.2.1 pc (.newarray .int) pc')
    (kk : V l D A Rm μ K (k + 1) (n + N) (z + 1) (va_up t z (20, N)) I R (va_up J z (fun _ => 0)) B pc' lv (va_rf (some z) :: st)) : V l D A Rm μ K k n z t I R J B pc lv (.int x :: st) := by
  intro p e s m args below meth cd C X H locs ls hR hS hl
  obtain ⟨d1, rfl⟩ := d
  have hts := C.2.2.2.2.2.1
  have hc : x.toNatClampNeg = N := by rw [hx]; exact nI_clamp (by omega)
  refine va_newaK (atype := .int) C.1 C.2.1 (hts _ w) rfl d1 rfl (by rw [hx]; exact nI_pos (by omega)) hc (by show N * 4 ≤ 536870912; omega) h1 h2 rfl fun H1 cA e1 z1 o1 hAr hNm => ?_
  have hz := hR.2.1
  rw [hz] at e1 z1 o1 ⊢
  refine kk p e s m args below meth cd C X H1 locs ls (hR.push hA (by omega) (fun q hq => o1 q hq) (fun b hb => va_up_ne _ _ hb) (fun f b hb => rfl) (fun f b hb => rfl) (fun b hb => va_up_ne _ _ hb) (fun _ _ => rfl) ?_) ⟨Nat.le_trans hS.1 (by omega), fun x h1 h2 => (o1 x (by have := hS.1; omega)).trans (hS.2.1 x h1 h2), hS.2.2⟩ hl
  rw [va_up_self, va_up_self]
  refine ⟨fun c' h1 h2 => by have h1 : 20 = c' + 1 := h1; omega, fun h => ⟨cA, ⟨hAr, hNm⟩, ?_⟩, fun j h => by have h : 20 = 21 + j := h; omega⟩
  rw [vp_cell_i]
  exact e1
theorem V_newq {x : Int32} {N j idx T : Nat} {Cn : String} (hj : j < 5) (hT : 21 + j = T) (hCn : rty j = .object Cn) (w : Cond.classLink μ.1.cls idx Cn ∈ gtb) (hx : x = nI N) (hN : N < 100000000) (hA : A z) (h1 : k + 1 ≤ Rm.cells) (h2 : n + N ≤ Rm.slots) (d : D3 μ.2.1 pc (.anewarray idx) pc')
    (kk : V l D A Rm μ K (k + 1) (n + N) (z + 1) (va_up t z (T, N)) I R J (va_up B z (fun _ => none)) pc' lv (va_rf (some z) :: st)) : V l D A Rm μ K k n z t I R J B pc lv (.int x :: st) := by
  intro p e s m args below meth cd C X H locs ls hR hS hl
  obtain ⟨d1, rfl⟩ := d
  subst hT
  have hts := C.2.2.2.2.2.1
  have hc : x.toNatClampNeg = N := by rw [hx]; exact nI_clamp (by omega)
  have hXt := C.2.2.2.2.2.2.2.2
  have hover : va_AO Cn s := by
    obtain ⟨-, g2, g3, g4, g5, g6, -⟩ := hXt
    rcases (show j = 0 ∨ j = 1 ∨ j = 2 ∨ j = 3 ∨ j = 4 by omega) with rfl | rfl | rfl | rfl | rfl <;> cases hCn <;> assumption
  subst hc
  refine W.anew C.1 C.2.1 C.2.2.2.2.1 (hts _ w) (va_AO.use hover) rfl d1 rfl (by rw [hx]; exact nI_pos (by omega)) (by omega) h1 h2 fun cA kA comp f1 f2 f3 f4 => ?_
  have hz := hR.2.1
  generalize hH1 : H.push ({ cls := cA, slots := Array.replicate x.toNatClampNeg .null, vm := .none } : Cell) = H1
  have z1 : H1.size = H.size + 1 := by rw [← hH1, Array.size_push]
  have e1 : H1[H.size]? = some (arrV cA x.toNatClampNeg (fun _ => .null)) := by rw [← hH1, Array.getElem?_push_size, ← arrV_new]
  have o1 : ∀ q : Nat, q < H.size → H1[q]? = H[q]? := fun q hq => by rw [← hH1, Array.getElem?_push, if_neg (Nat.ne_of_lt hq)]
  rw [hz] at e1 z1 o1 ⊢
  have hAr : ArrOfT s cA (rty j) := by rw [hCn]; exact fun N z => ⟨(fun k h => by cases h), kA, f2, comp, f3⟩
  have hRa : rRA s cA j := ⟨by rw [hCn]; exact ⟨kA, comp, f2, f3, f4, f1⟩, fun h => by omega⟩
  refine kk p e s m args below meth cd C X H1 locs ls (hR.push hA (by omega) (fun q hq => o1 q hq) (fun b hb => va_up_ne _ _ hb) (fun f b hb => rfl) (fun f b hb => rfl) (fun _ _ => rfl) (fun b hb => va_up_ne _ _ hb) ?_) ⟨Nat.le_trans hS.1 (by omega), fun x h1 h2 => (o1 x (by have := hS.1; omega)).trans (hS.2.1 x h1 h2), hS.2.2⟩ hl
  rw [va_up_self, va_up_self]
  refine ⟨fun c' h1 h2 => by have h1 : 21 + j = c' + 1 := h1; omega, fun h => by have h : 21 + j = 20 := h; omega, fun j' h h3 => ?_⟩
  have h : 21 + j = 21 + j' := h
  have ej : j' = j := by omega
  subst ej
  refine ⟨cA, ⟨hAr, hRa⟩, ?_⟩
  rw [vp_cell_q]
  exact e1
theorem V_newqA {x : Int32} {N idx : Nat} (w : Cond.classLink μ.1.cls idx "[I" ∈ gtb) (hx : x = nI N) (hN : N < 100000000) (hA : A z) (h1 : k + 1 ≤ Rm.cells) (h2 : n + N ≤ Rm.slots) (d : D3 μ.2.1 pc (.anewarray idx) pc')
    (kk : V l D A Rm μ K (k + 1) (n + N) (z + 1) (va_up t z (26, N)) I R J (va_up B z (fun _ => none)) pc' lv (va_rf (some z) :: st)) : V l D A Rm μ K k n z t I R J B pc lv (.int x :: st) := by
  intro p e s m args below meth cd C X H locs ls hR hS hl
  obtain ⟨d1, rfl⟩ := d
  have hts := C.2.2.2.2.2.1
  have hc : x.toNatClampNeg = N := by rw [hx]; exact nI_clamp (by omega)
  have hXt := C.2.2.2.2.2.2.2.2
  have hover : (Cond.arrayOver (.array .int)).before args s = true := hXt.2.2.2.2.2.2
  subst hc
  refine W.anewA (t := .int) C.1 C.2.1 C.2.2.2.2.1 (hts _ w) hover rfl d1 rfl (by rw [hx]; exact nI_pos (by omega)) (by omega) h1 h2 fun cA kA comp f1 f2 f3 f4 => ?_
  have hz := hR.2.1
  generalize hH1 : H.push ({ cls := cA, slots := Array.replicate x.toNatClampNeg .null, vm := .none } : Cell) = H1
  have z1 : H1.size = H.size + 1 := by rw [← hH1, Array.size_push]
  have e1 : H1[H.size]? = some (arrV cA x.toNatClampNeg (fun _ => .null)) := by rw [← hH1, Array.getElem?_push_size, ← arrV_new]
  have o1 : ∀ q : Nat, q < H.size → H1[q]? = H[q]? := fun q hq => by rw [← hH1, Array.getElem?_push, if_neg (Nat.ne_of_lt hq)]
  rw [hz] at e1 z1 o1 ⊢
  have hAr : ArrOfT s cA (rty 5) := fun N z => ⟨(fun k h => by cases h), kA, f2, comp, f3⟩
  have hRa : rRA s cA 5 := ⟨f1, fun _ => ⟨kA, comp, f2, f3, f4⟩⟩
  refine kk p e s m args below meth cd C X H1 locs ls (hR.push hA (by omega) (fun q hq => o1 q hq) (fun b hb => va_up_ne _ _ hb) (fun f b hb => rfl) (fun f b hb => rfl) (fun _ _ => rfl) (fun b hb => va_up_ne _ _ hb) ?_) ⟨Nat.le_trans hS.1 (by omega), fun x h1 h2 => (o1 x (by have := hS.1; omega)).trans (hS.2.1 x h1 h2), hS.2.2⟩ hl
  rw [va_up_self, va_up_self]
  refine ⟨fun c' h1 h2 => by have h1 : 26 = c' + 1 := h1; omega, fun h => by have h : 26 = 20 := h; omega, fun j' h h3 => ?_⟩
  have h : 26 = 21 + j' := h
  have ej : j' = 5 := by omega
  subst ej
  refine ⟨cA, ⟨hAr, hRa⟩, ?_⟩
  rw [vp_cell_q]
  exact e1
-- returns
theorem V_iret {mc ms : Nat} {Φ : PP} {v : Int32} (d : D1 μ.2.1 pc .ireturn pc') (hr : μ.2.2.2 = some .int) (h1 : k ≤ mc) (h2 : n ≤ ms) (q : Φ (some (.int v)) z t I R J B) : V l D A Rm μ (KS D A mc ms Φ) k n z t I R J B pc lv [.int v] := by
  intro p e s m args below meth cd C X H locs ls hR hS hl
  refine W.widen h1 h2 ?_
  exact W.iret C.1 C.2.1 (C.2.2.2.1.trans hr) (fun u hu hW => ⟨⟨_, _, _, _, _, _, _, rfl, q, by rw [hu]; exact hR.moved hW.alike⟩, hS.F hu⟩) hS.2.2 d.1 C.2.2.2.2.2.2.1
theorem V_zret {mc ms : Nat} {Φ : PP} {v : Int32} (d : D1 μ.2.1 pc .ireturn pc') (hr : μ.2.2.2 = some .boolean) (hv : v = 0 ∨ v = 1) (h1 : k ≤ mc) (h2 : n ≤ ms) (q : Φ (some (.int v)) z t I R J B) : V l D A Rm μ (KS D A mc ms Φ) k n z t I R J B pc lv [.int v] := by
  intro p e s m args below meth cd C X H locs ls hR hS hl
  refine W.widen h1 h2 ?_
  exact W.zret C.1 C.2.1 (C.2.2.2.1.trans hr) (by rcases hv with rfl | rfl <;> rfl) (fun u hu hW => ⟨⟨_, _, _, _, _, _, _, rfl, q, by rw [hu]; exact hR.moved hW.alike⟩, hS.F hu⟩) hS.2.2 d.1 C.2.2.2.2.2.2.1
theorem V_vret {mc ms : Nat} {Φ : PP} (d : D1 μ.2.1 pc .return_ pc') (hr : μ.2.2.2 = none) (h1 : k ≤ mc) (h2 : n ≤ ms) (q : Φ none z t I R J B) : V l D A Rm μ (KS D A mc ms Φ) k n z t I R J B pc lv [] := by
  intro p e s m args below meth cd C X H locs ls hR hS hl
  refine W.widen h1 h2 ?_
  exact W.vret C.1 C.2.1 (C.2.2.2.1.trans hr) (fun u hu hW => ⟨⟨_, _, _, _, _, _, _, rfl, q, by rw [hu]; exact hR.moved hW.alike⟩, hS.F hu⟩) hS.2.2 d.1 C.2.2.2.2.2.2.1
theorem V_aret {mc ms : Nat} {Φ : PP} {v : Option Nat} {Cn : String} (d : D1 μ.2.1 pc .areturn pc') (hr : μ.2.2.2 = some (.object Cn)) (h1 : k ≤ mc) (h2 : n ≤ ms) (q : Φ (some (va_rf v)) z t I R J B) : V l D A Rm μ (KS D A mc ms Φ) k n z t I R J B pc lv [va_rf v] := by
  intro p e s m args below meth cd C X H locs ls hR hS hl
  refine W.widen h1 h2 ?_
  exact W.aret C.1 C.2.1 (C.2.2.2.1.trans hr) (Or.inl ⟨_, rfl⟩) (va_rf_or v) (fun u hu hW => ⟨⟨_, _, _, _, _, _, _, rfl, q, by rw [hu]; exact hR.moved hW.alike⟩, hS.F hu⟩) hS.2.2 d.1 C.2.2.2.2.2.2.1
-- calls
theorem V_objInit {idx a : Nat} (d : D3 μ.2.1 pc (.invokespecial idx) pc') (w1 : Cond.methodLink μ.1.cls idx Lib.objectInit ∈ gtb) (w2 : Cond.instanceMethod Lib.objectInit ∈ gtb) (w3 : Cond.code Lib.objectInit ⟨#[0xb1]⟩ 1 none ∈ gtb) (hf : 1 ≤ Rm.frames) (hlo : 20 ≤ Rm.locals) (hs : st.length ≤ 4)
    (kk : V l D A Rm μ K k n z t I R J B pc' lv st) : V l D A Rm μ K k n z t I R J B pc lv (va_rf (some a) :: st) := by
  intro p e s m args below meth cd C X H locs ls hR hS hl
  obtain ⟨d1, rfl⟩ := d
  have hts := C.2.2.2.2.2.1
  refine W.objInit C.1 C.2.1 C.2.2.2.2.1 (hts _ w1) (hts _ w2) (hts _ w3) rfl (by rw [C.2.2.1]; exact hl.1) rfl d1 hf ?_ (kk p e s m args below meth cd C X H locs ls hR hS hl)
  have := cat_sum st
  show 2 * 0 + _ + 12 ≤ _
  omega
theorem V_mmin {x y : Int32} {idx : Nat} (d : D3 μ.2.1 pc (.invokestatic idx) pc') (w1 : Cond.methodLink μ.1.cls idx Lib.Math.min.name ∈ gtb) (w2 : Cond.static Lib.Math.min.name ∈ gtb) (w3 : Cond.initialized "java/lang/Math" ∈ gtb) (w4 : Cond.code Lib.Math.min.name Lib.Math.min.code 2 (some .int) ∈ gtb) (hf : 1 ≤ Rm.frames) (hlo : 21 ≤ Rm.locals) (hc : k ≤ Rm.cells) (hsl : n ≤ Rm.slots) (hs : st.length ≤ 4)
    (kk : V l D A Rm μ K k n z t I R J B pc' lv (.int (if y < x then y else x) :: st)) : V l D A Rm μ K k n z t I R J B pc lv (.int y :: .int x :: st) := by
  intro p e s m args below meth cd C X H locs ls hR hS hl
  obtain ⟨d1, rfl⟩ := d
  have hts := C.2.2.2.2.2.1
  have := cat_sum st
  exact va_mmin C.1 C.2.1 (by rw [C.2.2.1]; exact hl.1.symm) C.2.2.2.2.1 (hts _ w1) (hts _ w2) (hts _ w3) (hts _ w4) hf (by omega) hc hsl d1 (kk p e s m args below meth cd C X H locs ls hR hS hl)
theorem V_mmax {x y : Int32} {idx : Nat} (d : D3 μ.2.1 pc (.invokestatic idx) pc') (w1 : Cond.methodLink μ.1.cls idx Lib.Math.max.name ∈ gtb) (w2 : Cond.static Lib.Math.max.name ∈ gtb) (w3 : Cond.initialized "java/lang/Math" ∈ gtb) (w4 : Cond.code Lib.Math.max.name Lib.Math.max.code 2 (some .int) ∈ gtb) (hf : 1 ≤ Rm.frames) (hlo : 21 ≤ Rm.locals) (hc : k ≤ Rm.cells) (hsl : n ≤ Rm.slots) (hs : st.length ≤ 4)
    (kk : V l D A Rm μ K k n z t I R J B pc' lv (.int (if x < y then y else x) :: st)) : V l D A Rm μ K k n z t I R J B pc lv (.int y :: .int x :: st) := by
  intro p e s m args below meth cd C X H locs ls hR hS hl
  obtain ⟨d1, rfl⟩ := d
  have hts := C.2.2.2.2.2.1
  have := cat_sum st
  exact va_mmax C.1 C.2.1 (by rw [C.2.2.1]; exact hl.1.symm) C.2.2.2.2.1 (hts _ w1) (hts _ w2) (hts _ w3) (hts _ w4) hf (by omega) hc hsl d1 (kk p e s m args below meth cd C X H locs ls hR hS hl)
/-- behind a call -/
theorem call_back {p : Program} {e : Env} {s : State} {m : MethodId} {args : Array Value} {below : List Frame} {meth : Method} {cd : Code} {H : Heap} {locs : List Loc} {ls : Array Slot} {mc' ms' : Nat} {rest : List Value} {a : Array Value} (C : Cx μ p s m args meth cd) (X : K.2 s args) (hS : va_S A s.heap H locs) (hl : lp ls μ.2.2.1 lv)
    (hr : va_Run p l e Rm s m args below meth cd H locs k n mc' ms' (F0 m pc ls st) rest (Qcm D A (fun r z t I R J B => V l D A Rm μ K (k + mc') (n + ms') z t I R J B (pc + 3) lv (psh r rest)) a) A) : W p l e Rm s m args below meth cd H locs k n (K.1 below args s) (F0 m pc ls st) := by
  intro T hT Xs
  obtain ⟨v, st₀, u, T', L, h0, X', hL, e1, e2, ⟨⟨r, z', t', I', R', J', B', hv, hV, hR'⟩, hz, hk⟩, stp⟩ := hr T hT Xs
  cases hv
  rw [h0] at hz hk
  have hal : u.vm.Alike s.vm := by rw [← e2]; exact X'.warmed.alike.symm
  have hS' : va_S A s.heap T'.heap (locs ++ L) := ⟨Nat.le_trans hS.1 (by rw [e1]; exact hz), fun q h1 h2 => by rw [e1, hk q (Nat.lt_of_lt_of_le h1 hS.1) h2]; exact hS.2.1 q h1 h2, fun q hq => by
      rcases List.mem_append.mp hq with h | h
      · exact hS.2.2 q h
      · exact hL q h⟩
  have hR2 : Rep D A s z' t' I' R' J' B' T'.heap := by rw [e1]; exact hR'.moved hal
  obtain ⟨t2, a1, b1⟩ := hV p e s m args below meth cd C X T'.heap _ ls hR2 hS' hl T' rfl X'
  rw [psh_eq] at stp
  exact ⟨t2, stp t2 a1, b1⟩
/-- the callee's room fits the caller's -/
abbrev Rfit (Rm : Room) (k n d' mc' ms' : Nat) (ν : Meth) : Prop := (d' + 1 ≤ Rm.frames ∧ 8 + (ν.2.2.1 + 11) + 34 * d' ≤ Rm.locals) ∧ k + mc' ≤ Rm.cells ∧ n + ms' ≤ Rm.slots
theorem V_invV {idx a na d' mc' ms' : Nat} {ν : Meth} {As rest : List Value} (M : MV ν na) (w : Cond.methodLink μ.1.cls idx ν.1 ∈ gtb) (d : D3 μ.2.1 pc (.invokevirtual idx) pc') {c T : Nat} (hc : c < 13) (hcc : Cc c = ν.1.cls) (hT : c + 1 = T) (ht : (t a).1 = T) (hn : As.length = na) (hst : st = As.reverse ++ va_rf (some a) :: rest) (hrs : rest.length ≤ 4) (hf : Rfit Rm k n d' mc' ms' ν)
    (sem : Sem l D A d' mc' ms' ν (va_rf (some a) :: As) z t I R J B (fun r z t I R J B => V l D A Rm μ K (k + mc') (n + ms') z t I R J B pc' lv (psh r rest))) : V l D A Rm μ K k n z t I R J B pc lv st := by
  intro p e s m args below meth cd C X H locs ls hR hS hl
  subst hT
  obtain ⟨d1, rfl⟩ := d
  obtain ⟨hx, hb, hml, hr, hown, hts, hlk, hnam, hXt⟩ := id C
  obtain ⟨m1, m2, m3, m4, m5⟩ := M
  have hcl := (cl_ok c hc).1
  have hG : GoodIn gtb (wsV μ.1.cls idx ν.1.cls ν.1 (wsm ν)) := good_in (fun w' hw' => by
    simp only [wsV, wsm, List.cons_append, List.nil_append, List.mem_cons] at hw'
    rcases hw' with rfl | rfl | rfl | rfl | rfl | h
    · exact w
    · exact m1
    · exact m2
    · exact m3
    · exact m4
    · exact h)
  refine call_back C X hS hl (a := (Value.ref a :: As).toArray) (va_runV (Ts := gtb) (nL := μ.2.2.1) (As := As) (rest := rest) ⟨hx, hb, hml, hown, hts⟩ sem (cwV na hts hG rfl rfl rfl ⟨rfl, m5⟩ hf.1) ⟨blind, ?_, fun U hU hW => ⟨rfl, Xt.moved hW hXt, by rw [hU]; exact hR.moved hW.alike⟩⟩ rfl hn hl.1 hst (lv_room (by have := cat_sum rest; omega)) d1 hf.2)
  obtain ⟨cell, g1, g2, g3⟩ := va_recv hR.1 (hR.obj ht hc) (ci := c) (q0 := 0) hcl rfl
  exact ⟨cell, g1, g2, by rw [← hcc]; exact g3⟩
theorem V_invS {idx na d' mc' ms' : Nat} {ν : Meth} {As rest : List Value} (M : MS ν na) (w : Cond.methodLink μ.1.cls idx ν.1 ∈ gtb) (d : D3 μ.2.1 pc (.invokestatic idx) pc') (hown' : ν.1.cls = μ.1.cls) (hn : As.length = na) (hst : st = As.reverse ++ rest) (hrs : rest.length ≤ 4) (hf : Rfit Rm k n d' mc' ms' ν)
    (sem : Sem l D A d' mc' ms' ν As z t I R J B (fun r z t I R J B => V l D A Rm μ K (k + mc') (n + ms') z t I R J B pc' lv (psh r rest))) : V l D A Rm μ K k n z t I R J B pc lv st := by
  intro p e s m args below meth cd C X H locs ls hR hS hl
  obtain ⟨d1, rfl⟩ := d
  obtain ⟨hx, hb, hml, hr, hown, hts, hlk, hnam, hXt⟩ := id C
  obtain ⟨m1, m3, m4, m5⟩ := M
  have hG : GoodIn gtb (wsS μ.1.cls idx ν.1 (wsm ν)) := good_in (fun w' hw' => by
    simp only [wsS, wsm, List.cons_append, List.nil_append, List.mem_cons] at hw'
    rcases hw' with rfl | rfl | rfl | rfl | h
    · exact w
    · exact m1
    · rw [← hown']; exact m3
    · exact m4
    · exact h)
  exact call_back C X hS hl (a := As.toArray) (va_runS (Ts := gtb) (nL := μ.2.2.1) (As := As) (rest := rest) ⟨hx, hb, hml, hown, hts⟩ sem (cwS na hts hG rfl rfl rfl ⟨hown', m5⟩ hf.1) ⟨blind, fun U hU hW => ⟨rfl, Xt.moved hW hXt, by rw [hU]; exact hR.moved hW.alike⟩⟩ rfl hn hl.1 hst (lv_room (by have := cat_sum rest; omega)) d1 hf.2)
theorem V_invI {idx a na d' mc' ms' : Nat} {ν : Meth} {As rest : List Value} (M : MC ν na) (w : Cond.methodLink μ.1.cls idx ν.1 ∈ gtb) (d : D3 μ.2.1 pc (.invokespecial idx) pc') (hn : As.length = na) (hst : st = As.reverse ++ va_rf (some a) :: rest) (hrs : rest.length ≤ 4) (hf : Rfit Rm k n d' mc' ms' ν)
    (sem : Sem l D A d' mc' ms' ν (va_rf (some a) :: As) z t I R J B (fun r z t I R J B => V l D A Rm μ K (k + mc') (n + ms') z t I R J B pc' lv (psh r rest))) : V l D A Rm μ K k n z t I R J B pc lv st := by
  intro p e s m args below meth cd C X H locs ls hR hS hl
  obtain ⟨d1, rfl⟩ := d
  obtain ⟨hx, hb, hml, hr, hown, hts, hlk, hnam, hXt⟩ := id C
  obtain ⟨m1, m3, m4, ⟨m6, m7⟩, m5⟩ := M
  obtain ⟨ny, nb, nl, nr⟩ := ν
  have m7 : nr = none := m7
  subst m7
  have hG : GoodIn gtb (wsm (ny, nb, nl, none)) := good_in (fun w' hw' => by
    simp only [wsm, List.mem_cons] at hw'
    rcases hw' with rfl | h
    · exact m4
    · exact h)
  exact call_back C X hS hl (a := (Value.ref a :: As).toArray) (va_runI (Ts := gtb) (nL := μ.2.2.1) (As := As) (rest := rest) ⟨hx, hb, hml, hown, hts⟩ sem (cwI na hts hG rfl rfl rfl (hts _ m3) (hts _ w) (hts _ m1) m6 m5 hf.1) ⟨blind, fun U hU hW => ⟨rfl, Xt.moved hW hXt, by rw [hU]; exact hR.moved hW.alike⟩⟩ rfl hn hl.1 hst (lv_room (by have := cat_sum rest; omega)) d1 hf.2)
theorem V_invSN {idx na d' mc' ms' : Nat} {ν : Meth} {As rest : List Value} {host : String} (M : MS ν na) (w : Cond.methodLinkNest μ.1.cls idx ν.1 host ∈ nests) (d : D3 μ.2.1 pc (.invokestatic idx) pc') (hn : As.length = na) (hst : st = As.reverse ++ rest) (hrs : rest.length ≤ 4) (hf : Rfit Rm k n d' mc' ms' ν)
    (sem : Sem l D A d' mc' ms' ν As z t I R J B (fun r z t I R J B => V l D A Rm μ K (k + mc') (n + ms') z t I R J B pc' lv (psh r rest))) : V l D A Rm μ K k n z t I R J B pc lv st := by
  intro p e s m args below meth cd C X H locs ls hR hS hl
  obtain ⟨d1, rfl⟩ := d
  obtain ⟨hx, hb, hml, hr, hown, hts, hlk, hnam, hXt⟩ := id C
  obtain ⟨m1, m3, m4, m5⟩ := M
  have hG : GoodIn gtb (wsm ν) := good_in (fun w' hw' => by
    simp only [wsm, List.mem_cons] at hw'
    rcases hw' with rfl | h
    · exact m4
    · exact h)
  exact call_back C X hS hl (a := As.toArray) (va_runSN (Ts := gtb) (nL := μ.2.2.1) (As := As) (rest := rest) ⟨hx, hb, hml, hown, hts⟩ sem ⟨va_cnB na hts hG rfl rfl rfl (hXt.1 _ w) (hts _ m3) m5 hf.1, hts _ m1, trivial⟩ ⟨blind, fun U hU hW => ⟨rfl, Xt.moved hW hXt, by rw [hU]; exact hR.moved hW.alike⟩⟩ rfl hn hl.1 hst (lv_room (by have := cat_sum rest; omega)) d1 hf.2)
theorem V_invIN {idx a na d' mc' ms' : Nat} {ν : Meth} {As rest : List Value} {host : String} (M : MC ν na) (w : Cond.methodLinkNest μ.1.cls idx ν.1 host ∈ nests) (d : D3 μ.2.1 pc (.invokespecial idx) pc') (hn : As.length = na) (hst : st = As.reverse ++ va_rf (some a) :: rest) (hrs : rest.length ≤ 4) (hf : Rfit Rm k n d' mc' ms' ν)
    (sem : Sem l D A d' mc' ms' ν (va_rf (some a) :: As) z t I R J B (fun r z t I R J B => V l D A Rm μ K (k + mc') (n + ms') z t I R J B pc' lv (psh r rest))) : V l D A Rm μ K k n z t I R J B pc lv st := by
  intro p e s m args below meth cd C X H locs ls hR hS hl
  obtain ⟨d1, rfl⟩ := d
  obtain ⟨hx, hb, hml, hr, hown, hts, hlk, hnam, hXt⟩ := id C
  obtain ⟨m1, m3, m4, ⟨m6, m7⟩, m5⟩ := M
  obtain ⟨ny, nb, nl, nr⟩ := ν
  have m7 : nr = none := m7
  subst m7
  have hG : GoodIn gtb (wsm (ny, nb, nl, none)) := good_in (fun w' hw' => by
    simp only [wsm, List.mem_cons] at hw'
    rcases hw' with rfl | h
    · exact m4
    · exact h)
  exact call_back C X hS hl (a := (Value.ref a :: As).toArray) (va_runIN (Ts := gtb) (nL := μ.2.2.1) (As := As) (rest := rest) ⟨hx, hb, hml, hown, hts⟩ sem ⟨va_cnB na hts hG rfl rfl rfl (hXt.1 _ w) (hts _ m3) m5 hf.1, m6, hts _ m1⟩ ⟨blind, fun U hU hW => ⟨rfl, Xt.moved hW hXt, by rw [hU]; exact hR.moved hW.alike⟩⟩ rfl hn hl.1 hst (lv_room (by have := cat_sum rest; omega)) d1 hf.2)
end MAKE
