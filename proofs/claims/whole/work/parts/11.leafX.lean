-- LEAVES of the class
theorem i_le {x y : Int32} : x ≤ y ↔ x.toInt ≤ y.toInt := Int32.le_iff_toInt_le
theorem i_lt {x y : Int32} : x < y ↔ x.toInt < y.toInt := Int32.lt_iff_toInt_lt
theorem i_ext {x : Int32} {i : Nat} (h : x.toInt = (i : Int)) (hi : i < 2147483648) : x = nI i := Int32.toInt_inj.mp (by rw [h, nI_toInt (by omega)])
/-- a number between 0 and a bound is the image of one -/
theorem i_nat {x : Int32} (h : 0 ≤ x) : ∃ j : Nat, x = nI j ∧ x.toInt = (j : Int) ∧ j < 2147483648 := by
  have h1 := i_le.mp h
  have h2 := x.toInt_lt
  have h0 : (0 : Int32).toInt = 0 := rfl
  refine ⟨x.toInt.toNat, i_ext (by omega) (by omega), by omega, by omega⟩
def jmin (x y : Int32) : Int32 := if y < x then y else x
def jmax (x y : Int32) : Int32 := if x < y then y else x
theorem V_jmin {l : Launch} {D : va_G} {A : Nat → Prop} {Rm : Room} {μ : Meth} {K : Kx} {k n z : Nat} {t : TT} {I : MI} {R : MR} {J : MI} {B : MR} {pc pc' : Nat} {lv : List (Option Value)} {st : List Value} {x y : Int32} {idx : Nat} (d : D3 μ.2.1 pc (.invokestatic idx) pc') (w1 : Cond.methodLink μ.1.cls idx Lib.Math.min.name ∈ gtb) (hf : 1 ≤ Rm.frames) (hlo : 21 ≤ Rm.locals) (hc : k ≤ Rm.cells) (hsl : n ≤ Rm.slots) (hs : st.length ≤ 4)
    (kk : V l D A Rm μ K k n z t I R J B pc' lv (.int (jmin x y) :: st)) : V l D A Rm μ K k n z t I R J B pc lv (.int y :: .int x :: st) := by
  unfold jmin at kk
  exact V_mmin d w1 w_min1 wi_Math w_min2 hf hlo hc hsl hs kk
theorem V_jmax {l : Launch} {D : va_G} {A : Nat → Prop} {Rm : Room} {μ : Meth} {K : Kx} {k n z : Nat} {t : TT} {I : MI} {R : MR} {J : MI} {B : MR} {pc pc' : Nat} {lv : List (Option Value)} {st : List Value} {x y : Int32} {idx : Nat} (d : D3 μ.2.1 pc (.invokestatic idx) pc') (w1 : Cond.methodLink μ.1.cls idx Lib.Math.max.name ∈ gtb) (hf : 1 ≤ Rm.frames) (hlo : 21 ≤ Rm.locals) (hc : k ≤ Rm.cells) (hsl : n ≤ Rm.slots) (hs : st.length ≤ 4)
    (kk : V l D A Rm μ K k n z t I R J B pc' lv (.int (jmax x y) :: st)) : V l D A Rm μ K k n z t I R J B pc lv (.int y :: .int x :: st) := by
  unfold jmax at kk
  exact V_mmax d w1 w_max1 wi_Math w_max2 hf hlo hc hsl hs kk
theorem sem_X11_within {l : Launch} {D : va_G} {A : Nat → Prop} {z : Nat} {t : TT} {I : MI} {R : MR} {J : MI} {B : MR} {x lo hi : Int32} {Φ : PP}  (q : Φ (some (.int (bI (lo ≤ x ∧ x ≤ hi)))) z t I R J B) : Sem l D A 0 0 0 mX11_within [.int x, .int lo, .int hi] z t I R J B Φ := by
  refine Sem.run [some (.int x), some (.int lo), some (.int hi)] (by decide) rfl (ent_i (ent_i (ent_i ent_nil))) ?_
  refine V_iload dX11_within_0 rfl ?_
  refine V_iload dX11_within_1 rfl ?_
  refine V_icmp_gt dX11_within_2 (fun hc2 => ?_) (fun hc2 => ?_)
  · refine V_const dX11_within_14 ?_
    exact V_zret dX11_within_15 rfl (by first | exact Or.inl rfl | exact Or.inr rfl) (by decide) (by decide) (by rw [bI_f (by rw [i_le]; rw [i_lt] at hc2; omega)] at q; exact q)
  · refine V_iload dX11_within_5 rfl ?_
    refine V_iload dX11_within_6 rfl ?_
    refine V_icmp_gt dX11_within_7 (fun hc7 => ?_) (fun hc7 => ?_)
    · refine V_const dX11_within_14 ?_
      exact V_zret dX11_within_15 rfl (by first | exact Or.inl rfl | exact Or.inr rfl) (by decide) (by decide) (by rw [bI_f (by rw [i_le, i_le]; rw [i_lt] at hc7; omega)] at q; exact q)
    · refine V_const dX11_within_10 ?_
      refine V_goto dX11_within_11 ?_
      exact V_zret dX11_within_15 rfl (by first | exact Or.inl rfl | exact Or.inr rfl) (by decide) (by decide) (by rw [bI_t (by rw [i_le, i_le]; rw [i_lt] at hc7 hc2; omega)] at q; exact q)
theorem sem_X3_isThere {l : Launch} {D : va_G} {A : Nat → Prop} {z : Nat} {t : TT} {I : MI} {R : MR} {J : MI} {B : MR} {o : Nat} {Φ : PP} (ho : (t o).1 = 4) (q : Φ (some (.int (bI (I 307 o = -1)))) z t I R J B) : Sem l D A 0 0 0 mX3_isThere [va_rf (some o)] z t I R J B Φ := by
  refine Sem.run [some (va_rf (some o))] (by decide) rfl (ent_r ent_nil) ?_
  refine V_aload dX3_isThere_0 rfl ?_
  refine V_getI fk_X3_34 dX3_isThere_1 (by assumption) ?_
  refine V_const dX3_isThere_4 ?_
  refine V_icmp_ne dX3_isThere_5 (fun hc5 => ?_) (fun hc5 => ?_)
  · refine V_const dX3_isThere_12 ?_
    exact V_zret dX3_isThere_13 rfl (by first | exact Or.inl rfl | exact Or.inr rfl) (by decide) (by decide) (by rw [bI_f hc5] at q; exact q)
  · refine V_const dX3_isThere_8 ?_
    refine V_goto dX3_isThere_9 ?_
    exact V_zret dX3_isThere_13 rfl (by first | exact Or.inl rfl | exact Or.inr rfl) (by decide) (by decide) (by rw [bI_t hc5] at q; exact q)
theorem sem_X3_isThereBy {l : Launch} {D : va_G} {A : Nat → Prop} {z : Nat} {t : TT} {I : MI} {R : MR} {J : MI} {B : MR} {o : Nat} {w : Int32} {Φ : PP} (ho : (t o).1 = 4) (q : Φ (some (.int (bI (I 307 o = -1 ∨ I 307 o ≤ w)))) z t I R J B) : Sem l D A 0 0 0 mX3_isThereBy [va_rf (some o), .int w] z t I R J B Φ := by
  refine Sem.run [some (va_rf (some o)), some (.int w)] (by decide) rfl (ent_r (ent_i ent_nil)) ?_
  refine V_aload dX3_isThereBy_0 rfl ?_
  refine V_getI fk_X3_34 dX3_isThereBy_1 (by assumption) ?_
  refine V_const dX3_isThereBy_4 ?_
  refine V_icmp_eq dX3_isThereBy_5 (fun hc5 => ?_) (fun hc5 => ?_)
  · refine V_const dX3_isThereBy_16 ?_
    refine V_goto dX3_isThereBy_17 ?_
    exact V_zret dX3_isThereBy_21 rfl (by first | exact Or.inl rfl | exact Or.inr rfl) (by decide) (by decide) (by rw [bI_t (Or.inl hc5)] at q; exact q)
  · refine V_aload dX3_isThereBy_8 rfl ?_
    refine V_getI fk_X3_34 dX3_isThereBy_9 (by assumption) ?_
    refine V_iload dX3_isThereBy_12 rfl ?_
    refine V_icmp_gt dX3_isThereBy_13 (fun hc13 => ?_) (fun hc13 => ?_)
    · refine V_const dX3_isThereBy_20 ?_
      exact V_zret dX3_isThereBy_21 rfl (by first | exact Or.inl rfl | exact Or.inr rfl) (by decide) (by decide) (by rw [bI_f (fun h => h.elim hc5 (fun h => by rw [i_lt] at hc13; rw [i_le] at h; omega))] at q; exact q)
    · refine V_const dX3_isThereBy_16 ?_
      refine V_goto dX3_isThereBy_17 ?_
      exact V_zret dX3_isThereBy_21 rfl (by first | exact Or.inl rfl | exact Or.inr rfl) (by decide) (by decide) (by rw [bI_t (Or.inr (by rw [i_lt] at hc13; rw [i_le]; omega))] at q; exact q)
theorem sem_X5_wants {l : Launch} {D : va_G} {A : Nat → Prop} {z : Nat} {t : TT} {I : MI} {R : MR} {J : MI} {B : MR} {o : Nat} {Φ : PP} (ho : (t o).1 = 6) (q : Φ (some (.int (7 * I 501 o))) z t I R J B) : Sem l D A 0 0 0 mX5_wants [va_rf (some o)] z t I R J B Φ := by
  refine Sem.run [some (va_rf (some o))] (by decide) rfl (ent_r ent_nil) ?_
  refine V_const dX5_wants_0 ?_
  refine V_aload dX5_wants_2 rfl ?_
  refine V_getI fk_X5_15 dX5_wants_3 (by assumption) ?_
  refine V_imul dX5_wants_6 ?_
  exact V_iret dX5_wants_7 rfl (by decide) (by decide) q
theorem sem_X4_isFull {l : Launch} {D : va_G} {A : Nat → Prop} {z : Nat} {t : TT} {I : MI} {R : MR} {J : MI} {B : MR} {o : Nat} {Φ : PP} (ho : (t o).1 = 5) (q : Φ (some (.int (bI (300 ≤ I 401 o)))) z t I R J B) : Sem l D A 0 0 0 mX4_isFull [va_rf (some o)] z t I R J B Φ := by
  refine Sem.run [some (va_rf (some o))] (by decide) rfl (ent_r ent_nil) ?_
  refine V_aload dX4_isFull_0 rfl ?_
  refine V_getI fk_X4_17 dX4_isFull_1 (by assumption) ?_
  refine V_const dX4_isFull_4 ?_
  refine V_icmp_lt dX4_isFull_7 (fun hc7 => ?_) (fun hc7 => ?_)
  · refine V_const dX4_isFull_14 ?_
    exact V_zret dX4_isFull_15 rfl (by first | exact Or.inl rfl | exact Or.inr rfl) (by decide) (by decide) (by rw [bI_f (by rw [i_le]; rw [i_lt] at hc7; omega)] at q; exact q)
  · refine V_const dX4_isFull_10 ?_
    refine V_goto dX4_isFull_11 ?_
    exact V_zret dX4_isFull_15 rfl (by first | exact Or.inl rfl | exact Or.inr rfl) (by decide) (by decide) (by rw [bI_t (by rw [i_le]; rw [i_lt] at hc7; omega)] at q; exact q)
/-- byte i of a number, the highest first -/
def jb (x i : Int32) : Int32 := (x.toUInt32 >>> ((8 * (3 - i)).toUInt32 &&& Int32.toUInt32 31)).toInt32 &&& 255
theorem sem_X11_byteOf {l : Launch} {D : va_G} {A : Nat → Prop} {z : Nat} {t : TT} {I : MI} {R : MR} {J : MI} {B : MR} {x i : Int32} {Φ : PP}  (q : Φ (some (.int (jb x i))) z t I R J B) : Sem l D A 0 0 0 mX11_byteOf [.int x, .int i] z t I R J B Φ := by
  refine Sem.run [some (.int x), some (.int i)] (by decide) rfl (ent_i (ent_i ent_nil)) ?_
  refine V_iload dX11_byteOf_0 rfl ?_
  refine V_const dX11_byteOf_1 ?_
  refine V_const dX11_byteOf_3 ?_
  refine V_iload dX11_byteOf_4 rfl ?_
  refine V_isub dX11_byteOf_5 ?_
  refine V_imul dX11_byteOf_6 ?_
  refine V_iushr dX11_byteOf_7 ?_
  refine V_const dX11_byteOf_8 ?_
  refine V_iand dX11_byteOf_11 ?_
  exact V_iret dX11_byteOf_12 rfl (by decide) (by decide) q
def factS (c b k n g : Int32) : Int32 := if c = 98 then b else if c = 107 then k else if c = 110 then n else g
def holdS (s f v : Int32) : Prop := if s = 60 then f < v else if s = 62 then v < f else f = v
theorem i_ne {x k : Int32} {a : Int} (h : ¬ x = k) (hk : k.toInt = a) : ¬ x.toInt = a := lv_neT h hk
theorem sem_X0_factOf {l : Launch} {D : va_G} {A : Nat → Prop} {z : Nat} {t : TT} {I : MI} {R : MR} {J : MI} {B : MR} {c b k n g : Int32} {Φ : PP} (q : Φ (some (.int (factS c b k n g))) z t I R J B) : Sem l D A 0 0 0 mX0_factOf [.int c, .int b, .int k, .int n, .int g] z t I R J B Φ := by
  refine Sem.run [some (.int c), some (.int b), some (.int k), some (.int n), some (.int g)] (by decide) rfl (ent_i (ent_i (ent_i (ent_i (ent_i ent_nil))))) ?_
  refine V_iload dX0_factOf_0 rfl ?_
  unfold factS at q
  by_cases h1 : c = 98
  · rw [if_pos h1] at q
    refine V_lsw (dt := 36) dX0_factOf_1 (by decide +kernel) 35 (by rw [h1]; decide +kernel) (by decide) ?_
    refine V_iload dX0_factOf_36 rfl ?_
    exact V_iret dX0_factOf_37 rfl (by decide) (by decide) q
  rw [if_neg h1] at q
  by_cases h2 : c = 107
  · rw [if_pos h2] at q
    refine V_lsw (dt := 38) dX0_factOf_1 (by decide +kernel) 37 (by rw [h2]; decide +kernel) (by decide) ?_
    refine V_iload dX0_factOf_38 rfl ?_
    exact V_iret dX0_factOf_39 rfl (by decide) (by decide) q
  rw [if_neg h2] at q
  by_cases h3 : c = 110
  · rw [if_pos h3] at q
    refine V_lsw (dt := 40) dX0_factOf_1 (by decide +kernel) 39 (by rw [h3]; decide +kernel) (by decide) ?_
    refine V_iload dX0_factOf_40 rfl ?_
    exact V_iret dX0_factOf_41 rfl (by decide) (by decide) q
  rw [if_neg h3] at q
  refine V_lsw (dt := 42) dX0_factOf_1 (by decide +kernel) 41 (by rw [show (#[(98, 35), (107, 37), (110, 39)] : Array (Int × Int)).toList = [(98, 35), (107, 37), (110, 39)] from rfl, lv_osw (a := 98) h1 rfl, lv_osw (a := 107) h2 rfl, lv_osw (a := 110) h3 rfl]; rfl) (by decide) ?_
  refine V_iload dX0_factOf_42 rfl ?_
  exact V_iret dX0_factOf_44 rfl (by decide) (by decide) q
theorem sem_X0_holds {l : Launch} {D : va_G} {A : Nat → Prop} {z : Nat} {t : TT} {I : MI} {R : MR} {J : MI} {B : MR} {f s v : Int32} {Φ : PP} (q : Φ (some (.int (if s = 60 then bI (f < v) else if s = 62 then bI (v < f) else bI (f = v)))) z t I R J B) : Sem l D A 0 0 0 mX0_holds [.int f, .int s, .int v] z t I R J B Φ := by
  refine Sem.run [some (.int f), some (.int s), some (.int v)] (by decide) rfl (ent_i (ent_i (ent_i ent_nil))) ?_
  refine V_iload dX0_holds_0 rfl ?_
  by_cases h1 : s = 60
  · rw [if_pos h1] at q
    refine V_lsw (dt := 28) dX0_holds_1 (by decide +kernel) 27 (by rw [h1]; decide +kernel) (by decide) ?_
    refine V_iload dX0_holds_28 rfl ?_
    refine V_iload dX0_holds_29 rfl ?_
    refine V_icmp_ge dX0_holds_30 (fun hc30 => ?_) (fun hc30 => ?_)
    · refine V_const dX0_holds_37 ?_
      exact V_zret dX0_holds_38 rfl (by first | exact Or.inl rfl | exact Or.inr rfl) (by decide) (by decide) (by rw [bI_f (by rw [i_le] at hc30; rw [i_lt]; omega)] at q; exact q)
    · refine V_const dX0_holds_33 ?_
      refine V_goto dX0_holds_34 ?_
      exact V_zret dX0_holds_38 rfl (by first | exact Or.inl rfl | exact Or.inr rfl) (by decide) (by decide) (by rw [bI_t (by rw [i_le] at hc30; rw [i_lt]; omega)] at q; exact q)
  rw [if_neg h1] at q
  by_cases h2 : s = 62
  · rw [if_pos h2] at q
    refine V_lsw (dt := 39) dX0_holds_1 (by decide +kernel) 38 (by rw [h2]; decide +kernel) (by decide) ?_
    refine V_iload dX0_holds_39 rfl ?_
    refine V_iload dX0_holds_40 rfl ?_
    refine V_icmp_le dX0_holds_41 (fun hc41 => ?_) (fun hc41 => ?_)
    · refine V_const dX0_holds_48 ?_
      exact V_zret dX0_holds_49 rfl (by first | exact Or.inl rfl | exact Or.inr rfl) (by decide) (by decide) (by rw [bI_f (by rw [i_le] at hc41; rw [i_lt]; omega)] at q; exact q)
    · refine V_const dX0_holds_44 ?_
      refine V_goto dX0_holds_45 ?_
      exact V_zret dX0_holds_49 rfl (by first | exact Or.inl rfl | exact Or.inr rfl) (by decide) (by decide) (by rw [bI_t (by rw [i_le] at hc41; rw [i_lt]; omega)] at q; exact q)
  rw [if_neg h2] at q
  refine V_lsw (dt := 50) dX0_holds_1 (by decide +kernel) 49 (by rw [show (#[(60, 27), (62, 38)] : Array (Int × Int)).toList = [(60, 27), (62, 38)] from rfl, lv_osw (a := 60) h1 rfl, lv_osw (a := 62) h2 rfl]; rfl) (by decide) ?_
  refine V_iload dX0_holds_50 rfl ?_
  refine V_iload dX0_holds_51 rfl ?_
  refine V_icmp_ne dX0_holds_52 (fun hc52 => ?_) (fun hc52 => ?_)
  · refine V_const dX0_holds_59 ?_
    exact V_zret dX0_holds_60 rfl (by first | exact Or.inl rfl | exact Or.inr rfl) (by decide) (by decide) (by rw [bI_f hc52] at q; exact q)
  · refine V_const dX0_holds_55 ?_
    refine V_goto dX0_holds_56 ?_
    exact V_zret dX0_holds_60 rfl (by first | exact Or.inl rfl | exact Or.inr rfl) (by decide) (by decide) (by rw [bI_t hc52] at q; exact q)
theorem sem_X9_sitDown {l : Launch} {D : va_G} {A : Nat → Prop} {z : Nat} {t : TT} {I : MI} {R : MR} {J : MI} {B : MR} {o : Nat} {r : Int32} {Φ : PP} (ho : (t o).1 = 10) (q : Φ none z t (up2 (up2 I 900 o (I 900 o - jmin (I 900 o) r)) 901 o (r - jmin (I 900 o) r)) R J B) : Sem l D A 1 0 0 mX9_sitDown [va_rf (some o), .int r] z t I R J B Φ := by
  refine Sem.run [some (va_rf (some o)), some (.int r), none] (by decide) rfl (ent_r (ent_i (ent_none ent_nil))) ?_
  refine V_aload dX9_sitDown_0 rfl ?_
  refine V_getI fk_X9_7 dX9_sitDown_1 (by assumption) ?_
  refine V_iload dX9_sitDown_4 rfl ?_
  refine V_jmin dX9_sitDown_5 lk_X9_13 (by decide) (by decide) (by decide) (by decide) (Nat.le_of_ble_eq_true rfl) ?_
  refine V_is2 dX9_sitDown_8 (by decide) (noL_i _) ?_
  refine V_aload dX9_sitDown_9 rfl ?_
  refine V_dupr dX9_sitDown_10 ?_
  refine V_getI fk_X9_7 dX9_sitDown_11 (by assumption) ?_
  refine V_iload dX9_sitDown_14 rfl ?_
  refine V_isub dX9_sitDown_15 ?_
  refine V_putI fk_X9_7 (Or.inl rfl) rfl rfl dX9_sitDown_16 (by assumption) ?_
  refine V_aload dX9_sitDown_19 rfl ?_
  refine V_iload dX9_sitDown_20 rfl ?_
  refine V_iload dX9_sitDown_21 rfl ?_
  refine V_isub dX9_sitDown_22 ?_
  refine V_putI fk_X9_19 (Or.inl rfl) rfl rfl dX9_sitDown_23 (by assumption) ?_
  exact V_vret dX9_sitDown_26 rfl (by decide) (by decide) q
/-- how many casks are opened; what is left OPEN, what is still wanted behind it -/
def opN (w c r : Int32) : Int32 := if w ≤ 0 ∨ c ≤ 0 ∨ r ≤ 0 then 0 else jmin c ((w + r - 1) / r)
def opL (le w c r : Int32) : Int32 := if w ≤ 0 ∨ c ≤ 0 ∨ r ≤ 0 then le else jmax 0 (opN w c r * r - w)
def opW (w c r : Int32) : Int32 := if w ≤ 0 ∨ c ≤ 0 ∨ r ≤ 0 then w else jmax 0 (w - opN w c r * r)
theorem up2_same {α : Type} (M : Nat → Nat → α) (f a : Nat) : up2 M f a (M f a) = M := by
  funext g b
  by_cases e : g = f
  · subst e
    rw [up2_self]
    by_cases e2 : b = a
    · subst e2; rw [va_up_self]
    · rw [va_up_ne _ _ e2]
  · rw [up2_ne _ _ _ e]
theorem sem_X9_openFrom {l : Launch} {D : va_G} {A : Nat → Prop} {z : Nat} {t : TT} {I : MI} {R : MR} {J : MI} {B : MR} {o : Nat} {c r : Int32} {Φ : PP} (ho : (t o).1 = 10) (q : Φ (some (.int (opN (I 901 o) c r))) z t (up2 (up2 I 900 o (opL (I 900 o) (I 901 o) c r)) 901 o (opW (I 901 o) c r)) R J B) : Sem l D A 1 0 0 mX9_openFrom [va_rf (some o), .int c, .int r] z t I R J B Φ := by
  refine Sem.run [some (va_rf (some o)), some (.int c), some (.int r), none, none] (by decide) rfl (ent_r (ent_i (ent_i (ent_none (ent_none ent_nil))))) ?_
  refine V_aload dX9_openFrom_0 rfl ?_
  refine V_getI fk_X9_19 dX9_openFrom_1 (by assumption) ?_
  refine V_if_le dX9_openFrom_4 (fun hc4 => ?_) (fun hc4 => ?_)
  · refine V_const dX9_openFrom_15 ?_
    exact V_iret dX9_openFrom_16 rfl (by decide) (by decide) (by have hz : I 901 o ≤ 0 ∨ c ≤ 0 ∨ r ≤ 0 := Or.inl hc4; unfold opN opL opW at q; rw [if_pos hz, if_pos hz, if_pos hz, up2_same, up2_same] at q; exact q)
  · refine V_iload dX9_openFrom_7 rfl ?_
    refine V_if_le dX9_openFrom_8 (fun hc8 => ?_) (fun hc8 => ?_)
    · refine V_const dX9_openFrom_15 ?_
      exact V_iret dX9_openFrom_16 rfl (by decide) (by decide) (by have hz : I 901 o ≤ 0 ∨ c ≤ 0 ∨ r ≤ 0 := Or.inr (Or.inl hc8); unfold opN opL opW at q; rw [if_pos hz, if_pos hz, if_pos hz, up2_same, up2_same] at q; exact q)
    · refine V_iload dX9_openFrom_11 rfl ?_
      refine V_if_gt dX9_openFrom_12 (fun hc12 => ?_) (fun hc12 => ?_)
      · refine V_iload dX9_openFrom_17 rfl ?_
        refine V_aload dX9_openFrom_18 rfl ?_
        refine V_getI fk_X9_19 dX9_openFrom_19 (by assumption) ?_
        refine V_iload dX9_openFrom_22 rfl ?_
        refine V_iadd dX9_openFrom_23 ?_
        refine V_const dX9_openFrom_24 ?_
        refine V_isub dX9_openFrom_25 ?_
        refine V_iload dX9_openFrom_26 rfl ?_
        refine V_idiv dX9_openFrom_27 (by intro h; rw [h] at hc12; exact absurd hc12 (by decide)) ?_
        refine V_jmin dX9_openFrom_28 lk_X9_13 (by decide) (by decide) (by decide) (by decide) (Nat.le_of_ble_eq_true rfl) ?_
        refine V_is3 dX9_openFrom_31 (by decide) (noL_i _) ?_
        refine V_iload dX9_openFrom_32 rfl ?_
        refine V_iload dX9_openFrom_33 rfl ?_
        refine V_imul dX9_openFrom_34 ?_
        refine V_is4 dX9_openFrom_35 (by decide) (noL_i _) ?_
        refine V_aload dX9_openFrom_37 rfl ?_
        refine V_const dX9_openFrom_38 ?_
        refine V_iload dX9_openFrom_39 rfl ?_
        refine V_aload dX9_openFrom_41 rfl ?_
        refine V_getI fk_X9_19 dX9_openFrom_42 (by assumption) ?_
        refine V_isub dX9_openFrom_45 ?_
        refine V_jmax dX9_openFrom_46 lk_X9_22 (by decide) (by decide) (by decide) (by decide) (Nat.le_of_ble_eq_true rfl) ?_
        refine V_putI fk_X9_7 (Or.inl rfl) rfl rfl dX9_openFrom_49 (by assumption) ?_
        refine V_aload dX9_openFrom_52 rfl ?_
        refine V_const dX9_openFrom_53 ?_
        refine V_aload dX9_openFrom_54 rfl ?_
        refine V_getI fk_X9_19 dX9_openFrom_55 (by assumption) ?_
        refine V_iload dX9_openFrom_58 rfl ?_
        refine V_isub dX9_openFrom_60 ?_
        refine V_jmax dX9_openFrom_61 lk_X9_22 (by decide) (by decide) (by decide) (by decide) (Nat.le_of_ble_eq_true rfl) ?_
        refine V_putI fk_X9_19 (Or.inl rfl) rfl rfl dX9_openFrom_64 (by assumption) ?_
        refine V_iload dX9_openFrom_67 rfl ?_
        exact V_iret dX9_openFrom_68 rfl (by decide) (by decide) (by have hz : ¬ (I 901 o ≤ 0 ∨ c ≤ 0 ∨ r ≤ 0) := fun h => h.elim hc4 (fun h => h.elim hc8 (fun h => by rw [i_lt] at hc12; rw [i_le] at h; omega)); unfold opL opW opN at q; rw [if_neg hz, if_neg hz, if_neg hz] at q; exact q)
      · refine V_const dX9_openFrom_15 ?_
        exact V_iret dX9_openFrom_16 rfl (by decide) (by decide) (by have hz : I 901 o ≤ 0 ∨ c ≤ 0 ∨ r ≤ 0 := Or.inr (Or.inr (by rw [i_lt] at hc12; rw [i_le]; omega)); unfold opN opL opW at q; rw [if_pos hz, if_pos hz, if_pos hz, up2_same, up2_same] at q; exact q)
