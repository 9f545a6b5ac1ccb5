-- THE FRAME: a memory of fields and arrays as functions (Rep), a judgement over it alone (V), contracts (Sem)
abbrev TT : Type := Nat → Nat × Nat
abbrev MI : Type := Nat → Nat → Int32
abbrev MR : Type := Nat → Nat → Option Nat
abbrev PP : Type := Option Value → Nat → TT → MI → MR → MI → MR → Prop
def rty : Nat → FieldType := fun j => match j with
  | 0 => .object "FleetStores$Place"
  | 1 => .object "FleetStores$Kind"
  | 2 => .object "FleetStores$Store"
  | 3 => .object "FleetStores$Lot"
  | 4 => .object "FleetStores$Contract"
  | _ => .array .int
/-- what the tables say of an array of references of kind j -/
def rRA (U : State) (cA : ClassId) (j : Nat) : Prop := va_RA U cA (rty j) ∧ (j = 5 → ∃ (kA : Class) (comp : ClassId), U.vm.classes[cA]? = some kA ∧ kA.kind = .array comp (.array .int) ∧ U.vm.findClass (FieldType.array .int).toString = some comp)
theorem rRA.moved {u U : State} (hvm : u.vm.Alike U.vm) {cA : ClassId} {j : Nat} (h : rRA u cA j) : rRA U cA j := by
  refine ⟨h.1.moved hvm, fun hj => ?_⟩
  obtain ⟨kA, comp, h1, h2, h3⟩ := h.2 hj
  obtain ⟨k', hk', he⟩ := hvm.2.2 _ _ h1
  exact ⟨k', comp, hk', by rw [he]; exact h2, by rw [hvm.findClass]; exact h3⟩
/-- the fields of an object of class c, by its ints and its references -/
def fl (c : Nat) (iv : Nat → Int32) (rv : Nat → Option Nat) : List Value := (sh c).mapIdx fun k b => if b then va_rf (rv (100 * c + k)) else .int (iv (100 * c + k))
def CellOk (D : va_G) (U : State) (τ : Nat × Nat) (iv : Nat → Int32) (rv : Nat → Option Nat) (jv : Nat → Int32) (bv : Nat → Option Nat) (a : Nat) (H : Heap) : Prop :=
  (∀ c, τ.1 = c + 1 → c < 13 → va_at D classes (a, .inr (c, fl c iv rv)) H) ∧
  (τ.1 = 20 → ∃ cA : ClassId, (ArrOfT U cA .int ∧ va_RA U cA .int) ∧ H[a]? = some (vp_cell cA (τ.2, .inl jv))) ∧
  (∀ j, τ.1 = 21 + j → j < 6 → ∃ cA : ClassId, (ArrOfT U cA (rty j) ∧ rRA U cA j) ∧ H[a]? = some (vp_cell cA (τ.2, .inr (.inr (.inr (.inr bv))))))
def Rep (D : va_G) (A : Nat → Prop) (U : State) (z : Nat) (t : TT) (I : MI) (R : MR) (J : MI) (B : MR) (H : Heap) : Prop :=
  va_K D classes [] U ∧ H.size = z ∧ ∀ a, (t a).1 ≠ 0 → (A a ∧ a < z) ∧ CellOk D U (t a) (fun f => I f a) (fun f => R f a) (J a) (B a) a H
theorem CellOk.moved {D : va_G} {u U : State} (hvm : u.vm.Alike U.vm) {τ : Nat × Nat} {iv : Nat → Int32} {rv : Nat → Option Nat} {jv : Nat → Int32} {bv : Nat → Option Nat} {a : Nat} {H : Heap} (h : CellOk D u τ iv rv jv bv a H) : CellOk D U τ iv rv jv bv a H := by
  refine ⟨h.1, fun q => ?_, fun j q hj => ?_⟩
  · obtain ⟨cA, ⟨h1, h2⟩, h3⟩ := h.2.1 q
    exact ⟨cA, ⟨arrOfT_moved hvm h1, h2.moved hvm⟩, h3⟩
  · obtain ⟨cA, ⟨h1, h2⟩, h3⟩ := h.2.2 j q hj
    exact ⟨cA, ⟨arrOfT_moved hvm h1, h2.moved hvm⟩, h3⟩
theorem CellOk.kept {D : va_G} {U : State} {τ : Nat × Nat} {iv : Nat → Int32} {rv : Nat → Option Nat} {jv : Nat → Int32} {bv : Nat → Option Nat} {a : Nat} {H H1 : Heap} (h : CellOk D U τ iv rv jv bv a H) (hq : H1[a]? = H[a]?) : CellOk D U τ iv rv jv bv a H1 := by
  refine ⟨fun c q hc => (h.1 c q hc).kept hq, fun q => ?_, fun j q hj => ?_⟩
  · obtain ⟨cA, h1, h3⟩ := h.2.1 q
    exact ⟨cA, h1, hq.trans h3⟩
  · obtain ⟨cA, h1, h3⟩ := h.2.2 j q hj
    exact ⟨cA, h1, hq.trans h3⟩
theorem Rep.moved {D : va_G} {A : Nat → Prop} {u U : State} (hvm : u.vm.Alike U.vm) {z : Nat} {t : TT} {I : MI} {R : MR} {J : MI} {B : MR} {H : Heap} (h : Rep D A u z t I R J B H) : Rep D A U z t I R J B H :=
  ⟨va_K.moved hvm h.1, h.2.1, fun a ha => ⟨(h.2.2 a ha).1, (h.2.2 a ha).2.moved hvm⟩⟩
/-- one cell has changed -/
theorem Rep.put {D : va_G} {A : Nat → Prop} {U : State} {z : Nat} {t : TT} {I I' : MI} {R R' : MR} {J J' : MI} {B B' : MR} {H H1 : Heap} {a : Nat} (h : Rep D A U z t I R J B H) (hz : H1.size = H.size) (ho : ∀ q, q ≠ a → H1[q]? = H[q]?)
    (hI : ∀ f b, b ≠ a → I' f b = I f b) (hR : ∀ f b, b ≠ a → R' f b = R f b) (hJ : ∀ b, b ≠ a → J' b = J b) (hB : ∀ b, b ≠ a → B' b = B b) (hc : CellOk D U (t a) (fun f => I' f a) (fun f => R' f a) (J' a) (B' a) a H1) : Rep D A U z t I' R' J' B' H1 := by
  refine ⟨h.1, hz.trans h.2.1, fun b hb => ⟨(h.2.2 b hb).1, ?_⟩⟩
  by_cases e : b = a
  · subst e; exact hc
  · have h1 := (h.2.2 b hb).2.kept (ho b e)
    rw [show (fun f => I' f b) = (fun f => I f b) from funext fun f => hI f b e, show (fun f => R' f b) = (fun f => R f b) from funext fun f => hR f b e, hJ b e, hB b e]
    exact h1
/-- a cell has come -/
theorem Rep.push {D : va_G} {A : Nat → Prop} {U : State} {z : Nat} {t t' : TT} {I I' : MI} {R R' : MR} {J J' : MI} {B B' : MR} {H H1 : Heap} (h : Rep D A U z t I R J B H) (hA : A z) (hz : H1.size = z + 1) (ho : ∀ q, q < z → H1[q]? = H[q]?)
    (ht : ∀ b, b ≠ z → t' b = t b) (hI : ∀ f b, b ≠ z → I' f b = I f b) (hR : ∀ f b, b ≠ z → R' f b = R f b) (hJ : ∀ b, b ≠ z → J' b = J b) (hB : ∀ b, b ≠ z → B' b = B b) (hc : CellOk D U (t' z) (fun f => I' f z) (fun f => R' f z) (J' z) (B' z) z H1) : Rep D A U (z + 1) t' I' R' J' B' H1 := by
  refine ⟨h.1, hz, fun b hb => ?_⟩
  by_cases e : b = z
  · subst e; exact ⟨⟨hA, Nat.lt_succ_self _⟩, hc⟩
  · rw [ht b e] at hb ⊢
    obtain ⟨⟨h0, h00⟩, h1⟩ := h.2.2 b hb
    have h1 := h1.kept (ho b h00)
    rw [show (fun f => I' f b) = (fun f => I f b) from funext fun f => hI f b e, show (fun f => R' f b) = (fun f => R f b) from funext fun f => hR f b e, hJ b e, hB b e]
    exact ⟨⟨h0, Nat.lt_succ_of_lt h00⟩, h1⟩
-- locals by their places; none: nothing known
def lp (ls : Array Slot) (nL : Nat) (lv : List (Option Value)) : Prop := ls.size = nL ∧ lv_wf ls ∧ ∀ (i : Nat) (v : Value), lv[i]? = some (some v) → ls[i]? = some (.val v)
def lassoc (lv : List (Option Value)) : List (Nat × Value) := lv.zipIdx.filterMap fun q => q.1.map fun v => (q.2, v)
theorem lassoc_mem {lv : List (Option Value)} {i : Nat} {v : Value} : (i, v) ∈ lassoc lv ↔ lv[i]? = some (some v) := by
  unfold lassoc
  rw [List.mem_filterMap]
  constructor
  · rintro ⟨⟨o, j⟩, hm, he⟩
    have h1 := List.mk_mem_zipIdx_iff_getElem?.mp hm
    cases o with
    | none => simp at he
    | some w =>
      simp only [Option.map_some, Option.some.injEq, Prod.mk.injEq] at he
      obtain ⟨rfl, rfl⟩ := he
      exact h1
  · intro h
    exact ⟨(some v, i), List.mk_mem_zipIdx_iff_getElem?.mpr h, rfl⟩
theorem lp.has {ls : Array Slot} {nL : Nat} {lv : List (Option Value)} (h : lp ls nL lv) : lv_has ls nL (lassoc lv) := ⟨h.1, h.2.1, fun q hq => h.2.2 q.1 q.2 (lassoc_mem.mp hq)⟩
/-- no value of two slots -/
def noL (o : Option Value) : Prop := ∀ v, o = some v → v.category = 1
theorem noL_n : noL none := fun _ h => by cases h
theorem noL_i (x : Int32) : noL (some (.int x)) := fun _ h => by cases h; rfl
theorem noL_r (r : Option Nat) : noL (some (va_rf r)) := fun _ h => by cases h; cases r <;> rfl
theorem cat_rf (r : Option Nat) : (va_rf r).category = 1 := by cases r <;> rfl
theorem lp.set {ls ls' : Array Slot} {nL i : Nat} {v : Value} {lv : List (Option Value)} (h : lv_has ls' nL ((i, v) :: (lassoc lv).filter (fun q => !(q.1 == i) && !(q.1 + 1 == i && q.2.category == 2)))) (hp : ∀ j, j + 1 = i → noL (lv.getD j none)) (hi : i < lv.length) : lp ls' nL (lv.set i (some v)) := by
  refine ⟨h.1, h.2.1, fun j w hw => ?_⟩
  by_cases e : j = i
  · subst e
    rw [List.getElem?_set_self hi] at hw
    cases hw
    exact h.2.2 (j, v) List.mem_cons_self
  · rw [List.getElem?_set_ne (Ne.symm e)] at hw
    refine h.2.2 (j, w) (List.mem_cons_of_mem _ (List.mem_filter.mpr ⟨lassoc_mem.mpr hw, ?_⟩))
    have : ¬ (j + 1 = i ∧ w.category = 2) := fun ⟨q1, q2⟩ => by
      have h3 := hp j q1 w (by simp [List.getD, hw])
      omega
    by_cases e2 : j + 1 = i
    · have e3 : ¬ w.category = 2 := fun q => this ⟨e2, q⟩
      simp [e, e3]
    · simp [e, e2]
/-- the extra facts that no word of gtb says -/
def nests : List Cond := [.methodLinkNest "FleetStores$Store" 25 ⟨"FleetStores$Table", "<init>", "()V"⟩ "FleetStores", .methodLinkNest "FleetStores$Lots" 21 ⟨"FleetStores", "within", "(III)Z"⟩ "FleetStores", .methodLinkNest "FleetStores$Tape" 15 ⟨"FleetStores", "byteOf", "(II)I"⟩ "FleetStores", .methodLinkNest "FleetStores$Tape" 23 ⟨"FleetStores", "within", "(III)Z"⟩ "FleetStores", .methodLinkNest "FleetStores$Reader" 46 ⟨"FleetStores", "within", "(III)Z"⟩ "FleetStores"]
def Xt (U : State) : Prop := (∀ w ∈ nests, va_Nw w U) ∧ va_AO "FleetStores$Place" U ∧ va_AO "FleetStores$Kind" U ∧ va_AO "FleetStores$Store" U ∧ va_AO "FleetStores$Lot" U ∧ va_AO "FleetStores$Contract" U ∧ va_Nw (.arrayOver (.array .int)) U
def rmm (d mc ms : Nat) : Room := { frames := d, cells := mc, slots := ms, locals := 34 * d }
def wsm (μ : Meth) : List Cond := .code μ.1 μ.2.1 μ.2.2.1 μ.2.2.2 :: gtb
def Qcm (D : va_G) (A : Nat → Prop) (Φ : PP) : Array Value → State → Outcome → State → Prop := fun _ st o u => (∃ (r : Option Value) (z : Nat) (t : TT) (I : MI) (R : MR) (J : MI) (B : MR), o = .returned r ∧ Φ r z t I R J B ∧ Rep D A u z t I R J B u.heap) ∧ va_F A st u
/-- a contract: from every state that holds the memory, the method returns, and Φ holds of its answer and of the memory behind it -/
def Sem (l : Launch) (D : va_G) (A : Nat → Prop) (d mc ms : Nat) (μ : Meth) (av : List Value) (z : Nat) (t : TT) (I : MI) (R : MR) (J : MI) (B : MR) (Φ : PP) : Prop :=
  Met l μ.1 (wsm μ) (rmm d mc ms) (va_Pc av (fun U => Xt U ∧ Rep D A U z t I R J B U.heap)) (Qcm D A Φ) mc ms A
abbrev Kx : Type := (List Frame → Array Value → State → State → Prop) × (State → Array Value → Prop)
def Cx (μ : Meth) (p : Program) (s : State) (m : MethodId) (args : Array Value) (meth : Method) (c : Code) : Prop :=
  p.tables.exec = Jvm.exec ∧ c.code = μ.2.1 ∧ c.maxLocals = μ.2.2.1 ∧ meth.sig.returnType = μ.2.2.2 ∧ s.vm.findClass μ.1.cls = some m.cls ∧ (∀ w ∈ gtb, w.before args s = true) ∧ meth.locks = false ∧ meth.name = μ.1.name ∧ Xt s
/-- the machine, at pc with these locals and this stack over this memory, comes to its end -/
def V (l : Launch) (D : va_G) (A : Nat → Prop) (Rm : Room) (μ : Meth) (K : Kx) (k n z : Nat) (t : TT) (I : MI) (R : MR) (J : MI) (B : MR) (pc : Nat) (lv : List (Option Value)) (st : List Value) : Prop :=
  ∀ (p : Program) (e : Env) (s : State) (m : MethodId) (args : Array Value) (below : List Frame) (meth : Method) (c : Code), Cx μ p s m args meth c → K.2 s args → ∀ (H : Heap) (locs : List Loc) (ls : Array Slot), Rep D A s z t I R J B H → va_S A s.heap H locs → lp ls μ.2.2.1 lv → W p l e Rm s m args below meth c H locs k n (K.1 below args s) (F0 m pc ls st)
def KS (D : va_G) (A : Nat → Prop) (mc ms : Nat) (Φ : PP) : Kx := (fun below args s => MQ below (Qcm D A Φ) args s mc ms A, fun _ _ => True)
def entl (av : List Value) (nL : Nat) (lv : List (Option Value)) : Prop := (lg_sl av).length ≤ nL ∧ ∀ (i : Nat) (v : Value), lv[i]? = some (some v) → (i, v) ∈ lv_args 0 av
theorem Sem.of_V {l : Launch} {D : va_G} {A : Nat → Prop} {d mc ms : Nat} {μ : Meth} {av : List Value} {z : Nat} {t : TT} {I : MI} {R : MR} {J : MI} {B : MR} {Φ : PP} (lv : List (Option Value)) (hy : plainName μ.1.cls = true) (he : entl av μ.2.2.1 lv)
    (kk : V l D A (rmm d mc ms) μ (KS D A mc ms Φ) 0 0 z t I R J B 0 lv []) : Sem l D A d mc ms μ av z t I R J B Φ := by
  refine Met.ofW (cc := μ.2.1) (maxL := μ.2.2.1) (ret := μ.2.2.2) hy rfl ?_
  intro p e s m args below meth c s₁ Bd hml hv
  obtain ⟨rfl, hX, hR⟩ := hv
  have hts := atoms_spec (ws := wsm μ) Bd.pre
  have hown : s.vm.findClass μ.1.cls = some m.cls := findClass_of_methodNamed Bd.named
  have hl := lv_entry av (n := μ.2.2.1) he.1
  rw [lg_entry_eq]
  exact kk p e s m _ below meth c ⟨Bd.exec, Bd.bytes, hml, Bd.returns, hown, fun w hw => hts w (List.mem_cons_of_mem _ hw), Bd.notSynchronized, (name_of_methodNamed Bd.named Bd.method).1, hX⟩ trivial s.heap [] _ hR va_S.rf ⟨hl.1, hl.2.1, fun i v h => hl.2.2 (i, v) (he.2 i v h)⟩
