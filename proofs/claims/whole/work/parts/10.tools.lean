-- ENTRY OF A METHOD, SWITCHES
def EntOk : List Value → List (Option Value) → Prop
  | [], lv => ∀ o ∈ lv, o = none
  | _ :: _, [] => False
  | v :: vs, o :: lv => o = some v ∧ ((v.category = 1 ∧ EntOk vs lv) ∨ (v.category = 2 ∧ ∃ lv', lv = none :: lv' ∧ EntOk vs lv'))
theorem EntOk.len : ∀ (av : List Value) (lv : List (Option Value)), EntOk av lv → (lg_sl av).length ≤ lv.length
  | [], lv, _ => Nat.zero_le _
  | _ :: _, [], h => absurd h (fun q => q)
  | v :: vs, o :: lv, h => by
    obtain ⟨-, ⟨hc, h⟩ | ⟨hc, lv', rfl, h⟩⟩ := h
    · have h1 := EntOk.len vs lv h
      simp only [lg_sl, List.flatMap_cons, List.length_append, List.length_cons] at h1 ⊢
      rw [if_neg (by omega)]
      simp only [List.length_cons, List.length_nil]
      omega
    · have h1 := EntOk.len vs lv' h
      simp only [lg_sl, List.flatMap_cons, List.length_append, List.length_cons] at h1 ⊢
      rw [if_pos hc]
      simp only [List.length_cons, List.length_nil]
      omega
theorem EntOk.args : ∀ (av : List Value) (lv : List (Option Value)) (i : Nat), EntOk av lv → ∀ (j : Nat) (v : Value), lv[j]? = some (some v) → (i + j, v) ∈ lv_args i av
  | [], lv, i, h, j, v, hj => by
    have := h _ (List.mem_of_getElem? hj)
    cases this
  | _ :: _, [], _, h, _, _, _ => absurd h (fun q => q)
  | w :: vs, o :: lv, i, h, j, v, hj => by
    obtain ⟨ho, ⟨hc, h⟩ | ⟨hc, lv', rfl, h⟩⟩ := h
    · simp only [lv_args]
      rw [if_neg (by omega)]
      cases j with
      | zero =>
        simp only [List.getElem?_cons_zero, Option.some.injEq] at hj
        rw [ho] at hj
        cases hj
        exact List.mem_cons_self
      | succ j =>
        rw [List.getElem?_cons_succ] at hj
        have := EntOk.args vs lv (i + 1) h j v hj
        rw [show i + (j + 1) = i + 1 + j by omega]
        exact List.mem_cons_of_mem _ this
    · simp only [lv_args]
      rw [if_pos hc]
      match j, hj with
      | 0, hj =>
        simp only [List.getElem?_cons_zero, Option.some.injEq] at hj
        rw [ho] at hj
        cases hj
        exact List.mem_cons_self
      | 1, hj => simp at hj
      | j + 2, hj =>
        rw [List.getElem?_cons_succ, List.getElem?_cons_succ] at hj
        have := EntOk.args vs lv' (i + 2) h j v hj
        rw [show i + (j + 2) = i + 2 + j by omega]
        exact List.mem_cons_of_mem _ this
theorem Sem.run {l : Launch} {D : va_G} {A : Nat → Prop} {d mc ms : Nat} {μ : Meth} {av : List Value} {z : Nat} {t : TT} {I : MI} {R : MR} {J : MI} {B : MR} {Φ : PP} (lv : List (Option Value)) (hy : plainName μ.1.cls = true) (hn : lv.length = μ.2.2.1) (he : EntOk av lv)
    (kk : V l D A (rmm d mc ms) μ (KS D A mc ms Φ) 0 0 z t I R J B 0 lv []) : Sem l D A d mc ms μ av z t I R J B Φ :=
  Sem.of_V lv hy ⟨by rw [← hn]; exact EntOk.len av lv he, fun i v h => by have := EntOk.args av lv 0 he i v h; rwa [Nat.zero_add] at this⟩ kk
theorem ent_nil : EntOk [] [] := fun _ h => absurd h List.not_mem_nil
theorem ent_none {lv : List (Option Value)} (h : EntOk [] lv) : EntOk [] (none :: lv) := fun o ho => by
  rcases List.mem_cons.mp ho with rfl | ho
  · rfl
  · exact h o ho
theorem ent_i {x : Int32} {vs : List Value} {lv : List (Option Value)} (h : EntOk vs lv) : EntOk (.int x :: vs) (some (.int x) :: lv) := ⟨rfl, Or.inl ⟨rfl, h⟩⟩
theorem ent_r {r : Option Nat} {vs : List Value} {lv : List (Option Value)} (h : EntOk vs lv) : EntOk (va_rf r :: vs) (some (va_rf r) :: lv) := ⟨rfl, Or.inl ⟨cat_rf r, h⟩⟩
theorem ent_l {x : Int64} {vs : List Value} {lv : List (Option Value)} (h : EntOk vs lv) : EntOk (.long x :: vs) (some (.long x) :: none :: lv) := ⟨rfl, Or.inr ⟨rfl, lv, rfl, h⟩⟩
section SW
variable {l : Launch} {D : va_G} {A : Nat → Prop} {Rm : Room} {μ : Meth} {K : Kx} {k n z : Nat} {t : TT} {I : MI} {R : MR} {J : MI} {B : MR} {pc pc' tgt : Nat} {lv : List (Option Value)} {st : List Value}
theorem V_tsw {x : Int32} {dflt hi : Int} {offs : Array Int} {len N dt : Nat} (tg : Nat → Nat) (d : decode μ.2.1 pc = .ok (.tableswitch dflt 0 hi offs, len)) (hN : hi + 1 = (N : Int)) (hN2 : N < 1000) (hd : (pc : Int) + dflt = (dt : Int)) (ho : ∀ i, i < N → offs[i]? = some ((tg i : Int) - (pc : Int)))
    (ki : ∀ i, i < N → x = nI i → V l D A Rm μ K k n z t I R J B (tg i) lv st) (ko : (∀ i, i < N → x ≠ nI i) → V l D A Rm μ K k n z t I R J B dt lv st) : V l D A Rm μ K k n z t I R J B pc lv (.int x :: st) := by
  intro p e s m args below meth c C X H locs ls hR hS hl
  by_cases h : ∃ i, i < N ∧ x = nI i
  · obtain ⟨i, hi, hx⟩ := h
    have hxi : x.toInt = (i : Int) := by rw [hx]; exact nI_toInt (by omega)
    refine lv_tableIn C.1 C.2.1 d (by omega) (by omega) (off := (tg i : Int) - (pc : Int)) ?_ (tgt := tg i) (by omega) (ki i hi hx p e s m args below meth c C X H locs ls hR hS hl)
    rw [show (x.toInt - 0).toNat = i by omega]
    exact ho i hi
  · refine lv_tableOut C.1 C.2.1 d ?_ hd (ko (fun i hi hx => h ⟨i, hi, hx⟩) p e s m args below meth c C X H locs ls hR hS hl)
    rcases Int.lt_or_le x.toInt 0 with h0 | h0
    · exact Or.inl h0
    · refine Or.inr ?_
      rcases Int.lt_or_le hi x.toInt with h1 | h1
      · exact h1
      · exfalso
        refine h ⟨x.toInt.toNat, by omega, ?_⟩
        apply Int32.toInt_inj.mp
        rw [nI_toInt (by omega)]
        omega
theorem V_lsw {x : Int32} {dflt : Int} {ps : Array (Int × Int)} {len dt : Nat} (d : decode μ.2.1 pc = .ok (.lookupswitch dflt ps, len)) (hp : (ps.toList.zip (ps.toList.drop 1)).all (fun (a, next) => a.1 < next.1) = true) (off : Int) (ho : Op.lookupswitch.offset ps.toList dflt x.toInt = off) (ht : (pc : Int) + off = (dt : Int)) (kk : V l D A Rm μ K k n z t I R J B dt lv st) : V l D A Rm μ K k n z t I R J B pc lv (.int x :: st) := by
  intro p e s m args below meth c C X H locs ls hR hS hl
  exact lv_lookup C.1 C.2.1 d hp ho ht (kk p e s m args below meth c C X H locs ls hR hS hl)
end SW
-- true and false as ints
def bI (b : Prop) [Decidable b] : Int32 := if b then 1 else 0
theorem bI_t {b : Prop} [Decidable b] (h : b) : bI b = 1 := if_pos h
theorem bI_f {b : Prop} [Decidable b] (h : ¬ b) : bI b = 0 := if_neg h
theorem bI_01 (b : Prop) [Decidable b] : bI b = 0 ∨ bI b = 1 := by
  by_cases h : b
  · exact Or.inr (bI_t h)
  · exact Or.inl (bI_f h)
theorem bI_0 {b : Prop} [Decidable b] : bI b = 0 ↔ ¬ b := by
  by_cases h : b
  · rw [bI_t h]; exact ⟨fun q => absurd q (by decide), fun q => absurd h q⟩
  · rw [bI_f h]; exact ⟨fun _ => h, fun _ => rfl⟩
theorem bI_n0 {b : Prop} [Decidable b] : ¬ bI b = 0 ↔ b := by
  rw [bI_0, Decidable.not_not]
/-- fewer locals known -/
def lsub : List (Option Value) → List (Option Value) → Prop
  | [], _ => True
  | none :: a, [] => lsub a []
  | some _ :: _, [] => False
  | none :: a, _ :: b => lsub a b
  | some v :: a, o :: b => o = some v ∧ lsub a b
theorem lsub.get : ∀ (a b : List (Option Value)), lsub a b → ∀ (i : Nat) (v : Value), a[i]? = some (some v) → b[i]? = some (some v)
  | [], _, _, i, v, h => by simp at h
  | none :: a, [], hs, i, v, h => by
    cases i with
    | zero => simp at h
    | succ i => rw [List.getElem?_cons_succ] at h; have := lsub.get a [] hs i v h; simp at this
  | some _ :: _, [], hs, _, _, _ => absurd hs (fun q => q)
  | none :: a, o :: b, hs, i, v, h => by
    cases i with
    | zero => simp at h
    | succ i => rw [List.getElem?_cons_succ] at h ⊢; exact lsub.get a b hs i v h
  | some w :: a, o :: b, hs, i, v, h => by
    cases i with
    | zero => rw [List.getElem?_cons_zero] at h ⊢; rw [hs.1]; exact h
    | succ i => rw [List.getElem?_cons_succ] at h ⊢; exact lsub.get a b hs.2 i v h
theorem ls0 {b : List (Option Value)} : lsub [] b := trivial
theorem lsS {v : Value} {a b : List (Option Value)} (h : lsub a b) : lsub (some v :: a) (some v :: b) := ⟨rfl, h⟩
theorem lsN {o : Option Value} {a b : List (Option Value)} (h : lsub a b) : lsub (none :: a) (o :: b) := h
theorem lsE {v : Value} {o : Option Value} {a b : List (Option Value)} (e : o = some v) (h : lsub a b) : lsub (some v :: a) (o :: b) := ⟨e, h⟩
section MORE
variable {l : Launch} {D : va_G} {A : Nat → Prop} {Rm : Room} {μ : Meth} {K : Kx} {k n z : Nat} {t : TT} {I : MI} {R : MR} {J : MI} {B : MR} {pc pc' tgt : Nat} {lv lv' : List (Option Value)} {st : List Value}
theorem V.sub (h : lsub lv' lv) (kk : V l D A Rm μ K k n z t I R J B pc lv' st) : V l D A Rm μ K k n z t I R J B pc lv st := by
  intro p e s m args below meth c C X H locs ls hR hS hl
  exact kk p e s m args below meth c C X H locs ls hR hS ⟨hl.1, hl.2.1, fun i v q => hl.2.2 i v (lsub.get lv' lv h i v q)⟩
/-- a contract's end may be widened -/
theorem Sem.mono {d mc ms : Nat} {av : List Value} {Φ Ψ : PP} (h : Sem l D A d mc ms μ av z t I R J B Φ) (hq : ∀ r z t I R J B, Φ r z t I R J B → Ψ r z t I R J B) : Sem l D A d mc ms μ av z t I R J B Ψ := by
  unfold Sem Met MetFree at h ⊢
  intro p e ha hc hk s m args below hf happ hP hT
  obtain ⟨kk, o, h1, h2, h3, ⟨⟨r, z', t', I', R', J', B', g1, g2, g3⟩, hF⟩, hL⟩ := h p e ha hc hk s m args below hf happ hP hT
  exact ⟨kk, o, h1, h2, h3, ⟨⟨r, z', t', I', R', J', B', g1, hq _ _ _ _ _ _ _ g2, g3⟩, hF⟩, hL⟩
end MORE
