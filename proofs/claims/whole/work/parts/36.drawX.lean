-- DRAWING, in the class: rows for longs, the line, a contract's sum, the draw
theorem lp.set2 {ls ls' : Array Slot} {nL i : Nat} {v : Value} {lv : List (Option Value)} (h : lv_has ls' nL ((i, v) :: (lassoc lv).filter (fun q => !(q.1 == i) && (!(q.1 == i + 1) && !(q.1 + 1 == i && q.2.category == 2))))) (hp : ∀ j, j + 1 = i → noL (lv.getD j none)) (hi : i < lv.length) : lp ls' nL ((lv.set i (some v)).set (i + 1) none) := by
  refine ⟨h.1, h.2.1, fun j w hw => ?_⟩
  by_cases e1 : j = i + 1
  · subst e1
    by_cases hl : i + 1 < (lv.set i (some v)).length
    · rw [List.getElem?_set_self hl] at hw
      cases hw
    · rw [List.getElem?_eq_none (by rw [List.length_set]; omega)] at hw
      cases hw
  · rw [List.getElem?_set_ne (fun q => e1 q.symm)] at hw
    by_cases e : j = i
    · subst e
      rw [List.getElem?_set_self hi] at hw
      cases hw
      exact h.2.2 (j, v) List.mem_cons_self
    · rw [List.getElem?_set_ne (Ne.symm e)] at hw
      refine h.2.2 (j, w) (List.mem_cons_of_mem _ (List.mem_filter.mpr ⟨lassoc_mem.mpr hw, ?_⟩))
      have : ¬ (j + 1 = i ∧ w.category = 2) := fun ⟨q1, q2⟩ => by
        have h3 := hp j q1 w (by simp [List.getD, hw])
        omega
      by_cases e2 : j + 1 = i
      · have e3 : ¬ w.category = 2 := fun q => this ⟨e2, q⟩
        simp [e, e1, e3]
      · simp [e, e1, e2]
section LST
variable {l : Launch} {D : va_G} {A : Nat → Prop} {Rm : Room} {μ : Meth} {K : Kx} {k n z : Nat} {t : TT} {I : MI} {R : MR} {J : MI} {B : MR} {pc pc' : Nat} {lv : List (Option Value)} {st : List Value}
theorem V_lstore {i : Nat} {x : Int64} (d : D2 μ.2.1 pc (.lstore i) pc') (hi : i < lv.length) (hn : i + 1 < μ.2.2.1) (hp : ∀ j, j + 1 = i → noL (lv.getD j none)) (kk : V l D A Rm μ K k n z t I R J B pc' ((lv.set i (some (.long x))).set (i + 1) none) st) : V l D A Rm μ K k n z t I R J B pc lv (.long x :: st) := by
  intro p e s m args below meth c C X H locs ls hR hS hl
  obtain ⟨d1, rfl⟩ := d
  exact lv_lstore C.1 C.2.1 d1 hl.has hn rfl (fun ls' h' => kk p e s m args below meth c C X H locs ls' hR hS (lp.set2 (ls := ls) h' hp hi))
theorem V_ls6 {x : Int64} {a0 a1 a2 a3 a4 a5 a6 a7 : Option Value} {tl : List (Option Value)} (d : D2 μ.2.1 pc (.lstore 6) pc') (hn : 7 < μ.2.2.1) (hc : noL a5) (kk : V l D A Rm μ K k n z t I R J B pc' (a0 :: a1 :: a2 :: a3 :: a4 :: a5 :: some (.long x) :: none :: tl) st) : V l D A Rm μ K k n z t I R J B pc (a0 :: a1 :: a2 :: a3 :: a4 :: a5 :: a6 :: a7 :: tl) (.long x :: st) := V_lstore d (by simp only [List.length_cons]; omega) hn (fun j hj => by cases (show j = 5 by omega); exact hc) kk
end LST
/-- the first of n places from i on that bears v -/
def psF (f : Nat → Int32) (v : Int32) : Nat → Nat → Nat
  | 0, i => i
  | n + 1, i => if f i = v then i else psF f v n (i + 1)
theorem psF_ge {f : Nat → Int32} {v : Int32} : ∀ (n i : Nat), i ≤ psF f v n i
  | 0, _ => Nat.le_refl _
  | n + 1, i => by
    rw [psF]
    split
    · exact Nat.le_refl _
    · have := psF_ge (f := f) (v := v) n (i + 1); omega
theorem psF_le {f : Nat → Int32} {v : Int32} : ∀ (n i : Nat), psF f v n i ≤ i + n
  | 0, _ => Nat.le_refl _
  | n + 1, i => by
    rw [psF]
    split
    · omega
    · have := psF_le (f := f) (v := v) n (i + 1); omega
theorem psF_at {f : Nat → Int32} {v : Int32} : ∀ (n i : Nat), psF f v n i < i + n → f (psF f v n i) = v
  | 0, i, h => absurd h (Nat.lt_irrefl _)
  | n + 1, i, h => by
    rw [psF] at h ⊢
    split
    · assumption
    · rename_i hc
      rw [if_neg hc] at h
      exact psF_at n (i + 1) (by omega)
theorem psF_no {f : Nat → Int32} {v : Int32} : ∀ (n i j : Nat), i ≤ j → j < psF f v n i → ¬ f j = v
  | 0, i, j, h1, h2 => absurd h2 (Nat.not_lt.mpr h1)
  | n + 1, i, j, h1, h2 => by
    rw [psF] at h2
    split at h2
    · omega
    · rename_i hc
      by_cases e : j = i
      · subst e; exact hc
      · exact psF_no n (i + 1) j (by omega) h2
theorem psF_eq {f : Nat → Int32} {v : Int32} {n i r : Nat} (h0 : i ≤ r) (h1 : r < i + n) (h2 : f r = v) (h3 : ∀ j, i ≤ j → j < r → ¬ f j = v) : psF f v n i = r := by
  have a1 := psF_no (f := f) (v := v) n i r h0
  have a2 := psF_ge (f := f) (v := v) n i
  by_cases e : psF f v n i < r
  · exact absurd (psF_at n i (by omega)) (h3 _ a2 e)
  · by_cases e2 : r < psF f v n i
    · exact absurd h2 (a1 e2)
    · omega
theorem psF_out {f : Nat → Int32} {v : Int32} {n i : Nat} (h3 : ∀ j, i ≤ j → j < i + n → ¬ f j = v) : psF f v n i = i + n := by
  have a2 := psF_ge (f := f) (v := v) n i
  have a3 := psF_le (f := f) (v := v) n i
  by_cases e : psF f v n i < i + n
  · exact absurd (psF_at n i e) (h3 _ a2 e)
  · omega
/-- the number in a place of the line, of which the first c changes are kept -/
def lnV (f g : Nat → Int32) (c : Nat) (v : Int32) : Int32 := if psF f v c 0 < c then g (psF f v c 0) else v
theorem lnV_old {f g : Nat → Int32} {c : Nat} {v w : Int32} (h : psF f v c 0 < c) (u : Int32) : lnV f (va_up g (psF f v c 0) w) c u = if u = v then w else lnV f g c u := by
  unfold lnV
  by_cases e : u = v
  · subst e
    rw [if_pos h, if_pos rfl, va_up_self]
  · rw [if_neg e]
    by_cases h2 : psF f u c 0 < c
    · rw [if_pos h2, if_pos h2, va_up_ne]
      intro q
      have h3 := psF_at (f := f) (v := u) c 0 (by omega)
      rw [q, psF_at (f := f) (v := v) c 0 (by omega)] at h3
      exact e h3.symm
    · rw [if_neg h2, if_neg h2]
theorem lnV_new {f g : Nat → Int32} {c : Nat} {v w : Int32} (h : ¬ psF f v c 0 < c) (u : Int32) : lnV (va_up f c v) (va_up g c w) (c + 1) u = if u = v then w else lnV f g c u := by
  have hp := psF_le (f := f) (v := v) c 0
  unfold lnV
  by_cases e : u = v
  · subst e
    have : psF (va_up f c u) u (c + 1) 0 = c := psF_eq (Nat.zero_le _) (by omega) (va_up_self _ _ _) (fun j _ hj => by rw [va_up_ne _ _ (by omega)]; exact psF_no c 0 j (Nat.zero_le _) (by omega))
    rw [this, if_pos (Nat.lt_succ_self c), if_pos rfl, va_up_self]
  · rw [if_neg e]
    by_cases h2 : psF f u c 0 < c
    · have h3 := psF_at (f := f) (v := u) c 0 (by omega)
      have : psF (va_up f c v) u (c + 1) 0 = psF f u c 0 := psF_eq (Nat.zero_le _) (by omega) (by rw [va_up_ne _ _ (by omega)]; exact h3) (fun j _ hj => by rw [va_up_ne _ _ (by omega)]; exact psF_no c 0 j (Nat.zero_le _) hj)
      rw [this, if_pos (by omega), if_pos h2, va_up_ne _ _ (by omega)]
    · have h4 := psF_le (f := f) (v := u) c 0
      have : psF (va_up f c v) u (c + 1) 0 = 0 + (c + 1) := psF_out (fun j _ hj => by
        by_cases e2 : j = c
        · subst e2; rw [va_up_self]; exact fun q => e q.symm
        · rw [va_up_ne _ _ e2]; exact psF_no c 0 j (Nat.zero_le _) (by omega))
      rw [this, if_neg (by omega), if_neg h2]
def LiSt (t : TT) (R : MR) (o a0 a1 : Nat) : Prop := (t o).1 = 3 ∧ (R 200 o = some a0 ∧ t a0 = (20, 40)) ∧ (R 201 o = some a1 ∧ t a1 = (20, 40)) ∧ a0 ≠ a1

theorem lp_X2_numberIn {l : Launch} {D : va_G} {A : Nat → Prop} {z : Nat} {t : TT} {I : MI} {R : MR} {J : MI} {B : MR} {o a0 a1 c : Nat} {v : Int32} {Φ : PP} (ho : LiSt t R o a0 a1) (hc40 : c ≤ 40)  : ∀ (n i : Nat), i + n = c → Φ (some (.int (if psF (J a0) v n i < c then J a1 (psF (J a0) v n i) else v))) z t (up2 I 202 o (nI c)) R J B → V l D A (rmm 0 0 0) mX2_numberIn (KS D A 0 0 Φ) 0 0 z t (up2 I 202 o (nI c)) R J B 2 [some (va_rf (some o)), some (.int v), some (.int (nI i))] [] := by
  intro n
  induction n with
  | zero =>
    intro i hin q
    have hi : i = c := by omega
    subst hi
    refine V_iload dX2_numberIn_2 rfl ?_
    refine V_aload dX2_numberIn_3 rfl ?_
    refine V_getIs fk_X2_18 dX2_numberIn_4 ho.1 up2s ?_
    refine V_icmp_ge dX2_numberIn_7 (fun hc7 => ?_) (fun hc7 => ?_)
    · refine V_iload dX2_numberIn_39 rfl ?_
      exact V_iret dX2_numberIn_40 rfl (by decide) (by decide) (by rw [psF, if_neg (Nat.lt_irrefl _)] at q; exact q)
    · exact absurd (Int32.le_refl _) hc7
  | succ n ih =>
    intro i hin q
    refine V_iload dX2_numberIn_2 rfl ?_
    refine V_aload dX2_numberIn_3 rfl ?_
    refine V_getIs fk_X2_18 dX2_numberIn_4 ho.1 up2s ?_
    refine V_icmp_ge dX2_numberIn_7 (fun hc7 => ?_) (fun hc7 => ?_)
    · exact absurd hc7 (nI_ge (by omega) (by omega))
    · refine V_iload dX2_numberIn_10 rfl ?_
      refine V_const dX2_numberIn_11 ?_
      refine V_icmp_ge dX2_numberIn_13 (fun hc13 => ?_) (fun hc13 => ?_)
      · exact absurd hc13 (show ¬ nI 40 ≤ nI i from nI_ge (by omega) (by decide))
      · refine V_aload dX2_numberIn_16 rfl ?_
        refine V_getRs fk_X2_9 dX2_numberIn_17 ho.1 ho.2.1.1 ?_
        refine V_iload dX2_numberIn_20 rfl ?_
        refine V_iald dX2_numberIn_21 ho.2.1.2 rfl (by omega) (by decide) ?_
        refine V_iload dX2_numberIn_22 rfl ?_
        refine V_icmp_ne dX2_numberIn_23 (fun hc23 => ?_) (fun hc23 => ?_)
        · refine V_ii2 dX2_numberIn_33 (by decide) (noL_i _) ?_
          refine V_goto dX2_numberIn_36 ?_
          exact V.sub (lsS (lsS (lsE (by rw [nI_1]) ls0))) (ih (i + 1) (by omega) (by rw [psF, if_neg hc23] at q; exact q))
        · refine V_aload dX2_numberIn_26 rfl ?_
          refine V_getRs fk_X2_15 dX2_numberIn_27 ho.1 ho.2.2.1.1 ?_
          refine V_iload dX2_numberIn_30 rfl ?_
          refine V_iald dX2_numberIn_31 ho.2.2.1.2 rfl (by omega) (by decide) ?_
          exact V_iret dX2_numberIn_32 rfl (by decide) (by decide) (by rw [psF, if_pos hc23, if_pos (by omega)] at q; exact q)
theorem sem_X2_numberIn {l : Launch} {D : va_G} {A : Nat → Prop} {z : Nat} {t : TT} {I : MI} {R : MR} {J : MI} {B : MR} {o a0 a1 c : Nat} {v : Int32} {Φ : PP} (ho : LiSt t R o a0 a1) (hc40 : c ≤ 40) (q : Φ (some (.int (lnV (J a0) (J a1) c v))) z t (up2 I 202 o (nI c)) R J B) : Sem l D A 0 0 0 mX2_numberIn [va_rf (some o), .int v] z t (up2 I 202 o (nI c)) R J B Φ := by
  refine Sem.run [some (va_rf (some o)), some (.int v), none] (by decide) rfl (ent_r (ent_i (ent_none ent_nil))) ?_
  refine V_const dX2_numberIn_0 ?_
  refine V_is2 dX2_numberIn_1 (by decide) (noL_i _) ?_
  exact V.sub (lsS (lsS (lsS ls0))) (lp_X2_numberIn ho hc40 c 0 (by omega) q)
theorem lp_X2_put {l : Launch} {D : va_G} {A : Nat → Prop} {z : Nat} {t : TT} {I : MI} {R : MR} {J : MI} {B : MR} {o a0 a1 c : Nat} {v w : Int32} {Φ : PP} (ho : LiSt t R o a0 a1) (hc40 : c ≤ 40) (hc39 : c < 40) (q1 : ∀ (J' : MI) (c' : Nat), c' ≤ c + 1 → (∀ b, b ≠ a0 → b ≠ a1 → J' b = J b) → (∀ u, lnV (J' a0) (J' a1) c' u = if u = v then w else lnV (J a0) (J a1) c u) → Φ none z t (up2 I 202 o (nI c')) R J' B) : ∀ (n i : Nat), i + n = c → psF (J a0) v c 0 = psF (J a0) v n i → V l D A (rmm 0 0 0) mX2_put (KS D A 0 0 Φ) 0 0 z t (up2 I 202 o (nI c)) R J B 2 [some (va_rf (some o)), some (.int v), some (.int w), some (.int (nI i))] [] := by
  intro n
  induction n with
  | zero =>
    intro i hin q
    have hi : i = c := by omega
    subst hi
    refine V_iload dX2_put_2 rfl ?_
    refine V_aload dX2_put_3 rfl ?_
    refine V_getIs fk_X2_18 dX2_put_4 ho.1 up2s ?_
    refine V_icmp_ge dX2_put_7 (fun hc7 => ?_) (fun hc7 => ?_)
    · refine V_aload dX2_put_40 rfl ?_
      refine V_getIs fk_X2_18 dX2_put_41 ho.1 up2s ?_
      refine V_const dX2_put_44 ?_
      refine V_icmp_ge dX2_put_46 (fun hc46 => ?_) (fun hc46 => ?_)
      · exact absurd hc46 (show ¬ nI 40 ≤ nI i from nI_ge (by omega) (by decide))
      · refine V_aload dX2_put_49 rfl ?_
        refine V_getRs fk_X2_9 dX2_put_50 ho.1 ho.2.1.1 ?_
        refine V_aload dX2_put_53 rfl ?_
        refine V_getIs fk_X2_18 dX2_put_54 ho.1 up2s ?_
        refine V_iload dX2_put_57 rfl ?_
        refine V_iast dX2_put_58 ho.2.1.2 rfl (by omega) (by decide) ?_
        refine V_aload dX2_put_59 rfl ?_
        refine V_getRs fk_X2_15 dX2_put_60 ho.1 ho.2.2.1.1 ?_
        refine V_aload dX2_put_63 rfl ?_
        refine V_getIs fk_X2_18 dX2_put_64 ho.1 up2s ?_
        refine V_iload dX2_put_67 rfl ?_
        refine V_iast dX2_put_68 ho.2.2.1.2 rfl (by omega) (by decide) ?_
        refine V_aload dX2_put_69 rfl ?_
        refine V_dupr dX2_put_70 ?_
        refine V_getIs fk_X2_18 dX2_put_71 ho.1 up2s ?_
        refine V_const dX2_put_74 ?_
        refine V_iadd dX2_put_75 ?_
        rw [nI_1]
        refine V_putI fk_X2_18 (Or.inl rfl) rfl rfl dX2_put_76 ho.1 ?_
        exact V_vret dX2_put_79 rfl (by decide) (by decide) (by rw [up2_uu]; refine q1 _ (i + 1) (Nat.le_refl _) (fun b h0 h1 => by rw [up2_ne _ _ _ h1, up2_ne _ _ _ h0]) (fun u => ?_); rw [up2_self, up2_ne _ _ _ ho.2.2.2, up2_ne _ _ _ (fun e => ho.2.2.2 e.symm), up2_self]; rw [psF] at q; exact lnV_new (by omega) u)
    · exact absurd (Int32.le_refl _) hc7
  | succ n ih =>
    intro i hin q
    refine V_iload dX2_put_2 rfl ?_
    refine V_aload dX2_put_3 rfl ?_
    refine V_getIs fk_X2_18 dX2_put_4 ho.1 up2s ?_
    refine V_icmp_ge dX2_put_7 (fun hc7 => ?_) (fun hc7 => ?_)
    · exact absurd hc7 (nI_ge (by omega) (by omega))
    · refine V_iload dX2_put_10 rfl ?_
      refine V_const dX2_put_11 ?_
      refine V_icmp_ge dX2_put_13 (fun hc13 => ?_) (fun hc13 => ?_)
      · exact absurd hc13 (show ¬ nI 40 ≤ nI i from nI_ge (by omega) (by decide))
      · refine V_aload dX2_put_16 rfl ?_
        refine V_getRs fk_X2_9 dX2_put_17 ho.1 ho.2.1.1 ?_
        refine V_iload dX2_put_20 rfl ?_
        refine V_iald dX2_put_21 ho.2.1.2 rfl (by omega) (by decide) ?_
        refine V_iload dX2_put_22 rfl ?_
        refine V_icmp_ne dX2_put_23 (fun hc23 => ?_) (fun hc23 => ?_)
        · refine V_ii3 dX2_put_34 (by decide) (noL_i _) ?_
          refine V_goto dX2_put_37 ?_
          exact V.sub (lsS (lsS (lsS (lsE (by rw [nI_1]) ls0)))) (ih (i + 1) (by omega) (by rw [psF, if_neg hc23] at q; exact q))
        · refine V_aload dX2_put_26 rfl ?_
          refine V_getRs fk_X2_15 dX2_put_27 ho.1 ho.2.2.1.1 ?_
          refine V_iload dX2_put_30 rfl ?_
          refine V_iload dX2_put_31 rfl ?_
          refine V_iast dX2_put_32 ho.2.2.1.2 rfl (by omega) (by decide) ?_
          exact V_vret dX2_put_33 rfl (by decide) (by decide) (by rw [show psF (J a0) v (n + 1) i = i by rw [psF, if_pos hc23]] at q; refine q1 _ c (by omega) (fun b h0 h1 => by rw [up2_ne _ _ _ h1]) (fun u => ?_); rw [up2_self, up2_ne _ _ _ ho.2.2.2, ← q]; exact lnV_old (by omega) u)
theorem sem_X2_put {l : Launch} {D : va_G} {A : Nat → Prop} {z : Nat} {t : TT} {I : MI} {R : MR} {J : MI} {B : MR} {o a0 a1 c : Nat} {v w : Int32} {Φ : PP} (ho : LiSt t R o a0 a1) (hc39 : c < 40) (q : ∀ (J' : MI) (c' : Nat), c' ≤ c + 1 → (∀ b, b ≠ a0 → b ≠ a1 → J' b = J b) → (∀ u, lnV (J' a0) (J' a1) c' u = if u = v then w else lnV (J a0) (J a1) c u) → Φ none z t (up2 I 202 o (nI c')) R J' B) : Sem l D A 0 0 0 mX2_put [va_rf (some o), .int v, .int w] z t (up2 I 202 o (nI c)) R J B Φ := by
  refine Sem.run [some (va_rf (some o)), some (.int v), some (.int w), none] (by decide) rfl (ent_r (ent_i (ent_i (ent_none ent_nil)))) ?_
  refine V_const dX2_put_0 ?_
  refine V_is3 dX2_put_1 (by decide) (noL_i _) ?_
  exact V.sub (lsS (lsS (lsS (lsS ls0)))) (lp_X2_put ho (by omega) hc39 q c 0 (by omega) rfl)
def dxN (x : Int64) : Int64 := x * 6364136223846793005 + 1442695040888963407
def dxS (x : Int64) : Int64 := (x.toUInt64 >>> ((Int32.toInt64 33).toUInt64 &&& Int64.toUInt64 63)).toInt64
def dxP (n j : Nat) (x : Int64) : Int32 := nI j + (dxS x - dxS x / (nI n - nI j).toInt64 * (nI n - nI j).toInt64).toInt32
/-- how many of k casks drawn are bad: L is the line -/
def drA (gr : Int32) (n : Nat) : Nat → Nat → Int64 → (Int32 → Int32) → Int32 → Int32
  | 0, _, _, _, b => b
  | k + 1, j, x, L, b => drA gr n k (j + 1) (dxN x) (fun u => if u = dxP n j (dxN x) then L (nI j) else L u) (if gr ≤ L (dxP n j (dxN x)) - L (dxP n j (dxN x)) / 7 * 7 then b else b + 1)
theorem nI_sub {a b : Nat} (h : b ≤ a) : nI a - nI b = nI (a - b) := by
  have := nI_add (a - b) b
  rw [show a - b + b = a by omega] at this
  rw [← this]
  exact Int32.add_sub_cancel _ _
theorem nI_ne64 {n j : Nat} (h : j < n) (hn : n < 2147483648) : ¬ (nI n - nI j).toInt64 = 0 := fun q => by
  have := congrArg Int64.toInt q
  rw [nI_sub (by omega), Int32.toInt_toInt64, nI_toInt (by omega)] at this
  have e0 : (0 : Int64).toInt = 0 := rfl
  omega

theorem lp_X2_badDrawn {l : Launch} {D : va_G} {A : Nat → Prop} {z : Nat} {t : TT} {I : MI} {R : MR} {B : MR} {o a0 a1 a n K : Nat} {gr : Int32} {Φ : PP} (ho : LiSt t R o a0 a1) (ha : (t a).1 = 4) (hn : I 305 a = nI n) (hn2 : n < 2147483648) (hg : I 303 a = gr) (hK : K ≤ 40) (hKn : K ≤ n) : ∀ (k j c : Nat) (x : Int64) (L : Int32 → Int32) (b : Int32) (J : MI), j + k = K → c ≤ j → (∀ u, lnV (J a0) (J a1) c u = L u) → (∀ (J2 : MI) (c2 : Nat), (∀ b, b ≠ a0 → b ≠ a1 → J2 b = J b) → Φ (some (.int (drA gr n k j x L b))) z t (up2 I 202 o (nI c2)) R J2 B) → V l D A (rmm 1 0 0) mX2_badDrawn (KS D A 0 0 Φ) 0 0 z t (up2 I 202 o (nI c)) R J B 14 [some (va_rf (some o)), some (va_rf (some a)), some (.int (nI K)), none, none, some (.int b), some (.long x), none, some (.int (nI j)), none, none] [] := by
  intro k
  induction k with
  | zero =>
    intro j c x L b J hj hc hL q
    have hi : j = K := by omega
    subst hi
    refine V_iload dX2_badDrawn_14 rfl ?_
    refine V_iload dX2_badDrawn_16 rfl ?_
    refine V_icmp_ge dX2_badDrawn_17 (fun hc17 => ?_) (fun hc17 => ?_)
    · refine V_iload dX2_badDrawn_102 rfl ?_
      exact V_iret dX2_badDrawn_104 rfl (by decide) (by decide) (q J c (fun _ _ _ => rfl))
    · exact absurd (Int32.le_refl _) hc17
  | succ k ih =>
    intro j c x L b J hj hc hL q
    refine V_iload dX2_badDrawn_14 rfl ?_
    refine V_iload dX2_badDrawn_16 rfl ?_
    refine V_icmp_ge dX2_badDrawn_17 (fun hc17 => ?_) (fun hc17 => ?_)
    · exact absurd hc17 (nI_ge (by omega) (by omega))
    · refine V_iload dX2_badDrawn_20 rfl ?_
      refine V_aload dX2_badDrawn_22 rfl ?_
      refine V_getIs fk_X2_22 dX2_badDrawn_23 ha ((up2n (by decide)).trans hn) ?_
      refine V_icmp_ge dX2_badDrawn_26 (fun hc26 => ?_) (fun hc26 => ?_)
      · exact absurd hc26 (nI_ge (by omega) (by omega))
      · refine V_lload dX2_badDrawn_29 rfl ?_
        refine V_ldc2 kk_X2_27 dX2_badDrawn_31 ?_
        refine V_lmul dX2_badDrawn_34 ?_
        refine V_ldc2 kk_X2_29 dX2_badDrawn_35 ?_
        refine V_ladd dX2_badDrawn_38 ?_
        refine V_ls6 dX2_badDrawn_39 (by decide) (noL_i _) ?_
        refine V_iload dX2_badDrawn_41 rfl ?_
        refine V_lload dX2_badDrawn_43 rfl ?_
        refine V_const dX2_badDrawn_45 ?_
        refine V_lushr dX2_badDrawn_47 ?_
        refine V_aload dX2_badDrawn_48 rfl ?_
        refine V_getIs fk_X2_22 dX2_badDrawn_49 ha ((up2n (by decide)).trans hn) ?_
        refine V_iload dX2_badDrawn_52 rfl ?_
        refine V_isub dX2_badDrawn_54 ?_
        refine V_i2l dX2_badDrawn_55 ?_
        refine V_lrem dX2_badDrawn_56 (nI_ne64 (by omega) hn2) ?_
        refine V_l2i dX2_badDrawn_57 ?_
        refine V_iadd dX2_badDrawn_58 ?_
        refine V_is9 dX2_badDrawn_59 (by decide) (noL_i _) ?_
        refine V_aload dX2_badDrawn_61 rfl ?_
        refine V_iload dX2_badDrawn_62 rfl ?_
        refine V_invV (As := [_]) mv_X2_numberIn lk_X2_31 dX2_badDrawn_64 (c := 2) (by decide) rfl rfl ho.1 rfl rfl (Nat.le_of_ble_eq_true rfl) ⟨⟨by decide, by decide⟩, by decide, by decide⟩ (sem_X2_numberIn ho (by omega) ?_)
        rw [hL]
        refine V_is10 dX2_badDrawn_67 (by decide) (noL_i _) ?_
        refine V_aload dX2_badDrawn_69 rfl ?_
        refine V_iload dX2_badDrawn_70 rfl ?_
        refine V_aload dX2_badDrawn_72 rfl ?_
        refine V_iload dX2_badDrawn_73 rfl ?_
        refine V_invV (As := [_]) mv_X2_numberIn lk_X2_31 dX2_badDrawn_75 (c := 2) (by decide) rfl rfl ho.1 rfl rfl (Nat.le_of_ble_eq_true rfl) ⟨⟨by decide, by decide⟩, by decide, by decide⟩ (sem_X2_numberIn ho (by omega) ?_)
        refine V_invV (As := [_, _]) mv_X2_put lk_X2_35 dX2_badDrawn_78 (c := 2) (by decide) rfl rfl ho.1 rfl rfl (Nat.le_of_ble_eq_true rfl) ⟨⟨by decide, by decide⟩, by decide, by decide⟩ (sem_X2_put ho (by omega) (fun J1 c1 hc1 hf1 hl1 => ?_))
        refine V_iload dX2_badDrawn_81 rfl ?_
        refine V_const dX2_badDrawn_83 ?_
        refine V_irem dX2_badDrawn_85 (by decide) ?_
        refine V_aload dX2_badDrawn_86 rfl ?_
        refine V_getIs fk_X2_39 dX2_badDrawn_87 ha ((up2n (by decide)).trans hg) ?_
        refine V_icmp_ge dX2_badDrawn_90 (fun hc90 => ?_) (fun hc90 => ?_)
        · refine V_ii8 dX2_badDrawn_96 (by decide) noL_n ?_
          refine V_goto dX2_badDrawn_99 ?_
          refine V.sub (lsS (lsS (lsS (lsN (lsN (lsS (lsS (lsN (lsE (by rw [nI_1]) (lsN (lsN ls0))))))))))) (ih (j + 1) c1 (dxN x) (fun u => if u = dxP n j (dxN x) then L (nI j) else L u) _ J1 (by omega) (by omega) (fun u => by rw [hl1 u, hL (nI j), hL u]; rfl) (fun J2 c2 hf => ?_))
          have q2 := q J2 c2 (fun b h0 h1 => (hf b h0 h1).trans (hf1 b h0 h1))
          rw [drA, if_pos (show gr ≤ L (dxP n j (dxN x)) - L (dxP n j (dxN x)) / 7 * 7 from hc90)] at q2
          exact q2
        · refine V_ii5 dX2_badDrawn_93 (by decide) noL_n ?_
          refine V_ii8 dX2_badDrawn_96 (by decide) noL_n ?_
          refine V_goto dX2_badDrawn_99 ?_
          refine V.sub (lsS (lsS (lsS (lsN (lsN (lsS (lsS (lsN (lsE (by rw [nI_1]) (lsN (lsN ls0))))))))))) (ih (j + 1) c1 (dxN x) (fun u => if u = dxP n j (dxN x) then L (nI j) else L u) _ J1 (by omega) (by omega) (fun u => by rw [hl1 u, hL (nI j), hL u]; rfl) (fun J2 c2 hf => ?_))
          have q2 := q J2 c2 (fun b h0 h1 => (hf b h0 h1).trans (hf1 b h0 h1))
          rw [drA, if_neg (show ¬ gr ≤ L (dxP n j (dxN x)) - L (dxP n j (dxN x)) / 7 * 7 from hc90)] at q2
          exact q2
theorem sem_X2_badDrawn {l : Launch} {D : va_G} {A : Nat → Prop} {z : Nat} {t : TT} {I : MI} {R : MR} {J : MI} {B : MR} {o a0 a1 a n K : Nat} {gr : Int32} {sd : Int64} {Φ : PP} (ho : LiSt t R o a0 a1) (ha : (t a).1 = 4) (hn : I 305 a = nI n) (hn2 : n < 2147483648) (hg : I 303 a = gr) (hK : K ≤ 40) (hKn : K ≤ n) (q : ∀ (J2 : MI) (c2 : Nat), (∀ b, b ≠ a0 → b ≠ a1 → J2 b = J b) → Φ (some (.int (drA gr n K 0 sd id 0))) z t (up2 I 202 o (nI c2)) R J2 B) : Sem l D A 1 0 0 mX2_badDrawn [va_rf (some o), va_rf (some a), .int (nI K), .long sd] z t I R J B Φ := by
  refine Sem.run [some (va_rf (some o)), some (va_rf (some a)), some (.int (nI K)), some (.long sd), none, none, none, none, none, none, none] (by decide) rfl (ent_r (ent_r (ent_i (ent_l (ent_none (ent_none (ent_none (ent_none (ent_none (ent_none ent_nil)))))))))) ?_
  refine V_aload dX2_badDrawn_0 rfl ?_
  refine V_const dX2_badDrawn_1 ?_
  refine V_putI fk_X2_18 (Or.inl rfl) rfl rfl dX2_badDrawn_2 ho.1 ?_
  refine V_const dX2_badDrawn_5 ?_
  refine V_is5 dX2_badDrawn_6 (by decide) noL_n ?_
  refine V_lload dX2_badDrawn_8 rfl ?_
  refine V_ls6 dX2_badDrawn_9 (by decide) (noL_i _) ?_
  refine V_const dX2_badDrawn_11 ?_
  refine V_is8 dX2_badDrawn_12 (by decide) noL_n ?_
  exact V.sub (lsS (lsS (lsS (lsN (lsN (lsS (lsS (lsN (lsS (lsN (lsN ls0))))))))))) (lp_X2_badDrawn (c := 0) ho ha hn hn2 hg hK hKn K 0 sd id 0 J (by omega) (Nat.le_refl _) (fun u => if_neg (Nat.not_lt_zero _)) q)
/-- what a clause pays -/
def hdI (s f v : Int32) : Int32 := if s = 60 then bI (f < v) else if s = 62 then bI (v < f) else bI (f = v)
def suA (b k n g : Int32) (c : CC) : Int32 := if hdI c.2.1 (factS c.1 b k n g) c.2.2.1 = 0 then 0 else c.2.2.2
def suF (b k n g : Int32) : List CC → Int32
  | [] => 0
  | c :: cs => suA b k n g c + suF b k n g cs
theorem lp_X0_sum {l : Launch} {D : va_G} {A : Nat → Prop} {z : Nat} {t : TT} {I : MI} {R : MR} {J : MI} {B : MR} {o a0 a1 a2 a3 : Nat} {b k n g : Int32} {acc : List CC} {Φ : PP} (ho : CoSt t R o a0 a1 a2 a3) (hc : I 4 o = nI acc.length) (hc34 : acc.length ≤ 34) (hh : CoHas J a0 a1 a2 a3 acc) : ∀ (rest pre : List CC) (s : Int32), pre ++ rest = acc → Φ (some (.int (s + suF b k n g rest))) z t I R J B → V l D A (rmm 1 0 0) mX0_sum (KS D A 0 0 Φ) 0 0 z t I R J B 6 [some (va_rf (some o)), some (.int b), some (.int k), some (.int n), some (.int g), some (.int s), some (.int (nI pre.length)), none] [] := by
  intro rest
  induction rest with
  | nil =>
    intro pre s hp q
    have hi : acc.length = pre.length := by rw [← hp, List.append_nil]
    refine V_iload dX0_sum_6 rfl ?_
    refine V_aload dX0_sum_8 rfl ?_
    refine V_getIs fk_X0_24 dX0_sum_9 ho.1 hc ?_
    refine V_icmp_ge dX0_sum_12 (fun hc12 => ?_) (fun hc12 => ?_)
    · refine V_iload dX0_sum_79 rfl ?_
      exact V_iret dX0_sum_81 rfl (by decide) (by decide) (by rw [suF, Int32.add_zero] at q; exact q)
    · exact absurd (by rw [hi]; exact Int32.le_refl _) hc12
  | cons c cs ih =>
    intro pre s hp q
    have hlt : pre.length < acc.length := by rw [← hp, List.length_append, List.length_cons]; omega
    obtain ⟨h0, h1, h2, h3⟩ := hh pre.length c (by rw [← hp, List.getElem?_append_right (Nat.le_refl _), Nat.sub_self]; rfl)
    refine V_iload dX0_sum_6 rfl ?_
    refine V_aload dX0_sum_8 rfl ?_
    refine V_getIs fk_X0_24 dX0_sum_9 ho.1 hc ?_
    refine V_icmp_ge dX0_sum_12 (fun hc12 => ?_) (fun hc12 => ?_)
    · exact absurd hc12 (nI_ge hlt (by omega))
    · refine V_iload dX0_sum_15 rfl ?_
      refine V_const dX0_sum_17 ?_
      refine V_icmp_ge dX0_sum_19 (fun hc19 => ?_) (fun hc19 => ?_)
      · exact absurd hc19 (show ¬ nI 34 ≤ nI pre.length from nI_ge (by omega) (by decide))
      · refine V_aload dX0_sum_22 rfl ?_
        refine V_getRs fk_X0_9 dX0_sum_23 ho.1 ho.2.1.1 ?_
        refine V_iload dX0_sum_26 rfl ?_
        refine V_ialds dX0_sum_28 ho.2.1.2 rfl (by omega) (by decide) h0 ?_
        refine V_iload dX0_sum_29 rfl ?_
        refine V_iload dX0_sum_30 rfl ?_
        refine V_iload dX0_sum_31 rfl ?_
        refine V_iload dX0_sum_32 rfl ?_
        refine V_invS (As := [_, _, _, _, _]) ms_X0_factOf lk_X0_28 dX0_sum_34 rfl rfl rfl (Nat.le_of_ble_eq_true rfl) ⟨⟨by decide, by decide⟩, by decide, by decide⟩ (sem_X0_factOf ?_)
        refine V_is7 dX0_sum_37 (by decide) (noL_i _) ?_
        refine V_iload dX0_sum_39 rfl ?_
        refine V_aload dX0_sum_41 rfl ?_
        refine V_getRs fk_X0_15 dX0_sum_42 ho.1 ho.2.2.1.1 ?_
        refine V_iload dX0_sum_45 rfl ?_
        refine V_ialds dX0_sum_47 ho.2.2.1.2 rfl (by omega) (by decide) h1 ?_
        refine V_aload dX0_sum_48 rfl ?_
        refine V_getRs fk_X0_18 dX0_sum_49 ho.1 ho.2.2.2.1.1 ?_
        refine V_iload dX0_sum_52 rfl ?_
        refine V_ialds dX0_sum_54 ho.2.2.2.1.2 rfl (by omega) (by decide) h2 ?_
        refine V_invS (As := [_, _, _]) ms_X0_holds lk_X0_32 dX0_sum_55 rfl rfl rfl (Nat.le_of_ble_eq_true rfl) ⟨⟨by decide, by decide⟩, by decide, by decide⟩ (sem_X0_holds ?_)
        refine V_if_eq dX0_sum_58 (fun hc58 => ?_) (fun hc58 => ?_)
        · refine V_ii6 dX0_sum_73 (by decide) (noL_i _) ?_
          refine V_goto dX0_sum_76 ?_
          exact V.sub (lsS (lsS (lsS (lsS (lsS (lsS (lsE (by rw [nI_1, List.length_append]; rfl) (lsN ls0)))))))) (ih (pre ++ [c]) _ (by rw [List.append_assoc]; exact hp) (by rw [suF, suA, if_pos (show hdI c.2.1 (factS c.1 b k n g) c.2.2.1 = 0 from hc58), Int32.zero_add] at q; exact q))
        · refine V_iload dX0_sum_61 rfl ?_
          refine V_aload dX0_sum_63 rfl ?_
          refine V_getRs fk_X0_21 dX0_sum_64 ho.1 ho.2.2.2.2.1 ?_
          refine V_iload dX0_sum_67 rfl ?_
          refine V_ialds dX0_sum_69 ho.2.2.2.2.2 rfl (by omega) (by decide) h3 ?_
          refine V_iadd dX0_sum_70 ?_
          refine V_is5 dX0_sum_71 (by decide) (noL_i _) ?_
          refine V_ii6 dX0_sum_73 (by decide) (noL_i _) ?_
          refine V_goto dX0_sum_76 ?_
          exact V.sub (lsS (lsS (lsS (lsS (lsS (lsS (lsE (by rw [nI_1, List.length_append]; rfl) (lsN ls0)))))))) (ih (pre ++ [c]) _ (by rw [List.append_assoc]; exact hp) (by rw [suF, suA, if_neg (show ¬ hdI c.2.1 (factS c.1 b k n g) c.2.2.1 = 0 from hc58), ← Int32.add_assoc] at q; exact q))
theorem sem_X0_sum {l : Launch} {D : va_G} {A : Nat → Prop} {z : Nat} {t : TT} {I : MI} {R : MR} {J : MI} {B : MR} {o a0 a1 a2 a3 : Nat} {b k n g : Int32} {acc : List CC} {Φ : PP} (ho : CoSt t R o a0 a1 a2 a3) (hc : I 4 o = nI acc.length) (hc34 : acc.length ≤ 34) (hh : CoHas J a0 a1 a2 a3 acc) (q : Φ (some (.int (suF b k n g acc))) z t I R J B) : Sem l D A 1 0 0 mX0_sum [va_rf (some o), .int b, .int k, .int n, .int g] z t I R J B Φ := by
  refine Sem.run [some (va_rf (some o)), some (.int b), some (.int k), some (.int n), some (.int g), none, none, none] (by decide) rfl (ent_r (ent_i (ent_i (ent_i (ent_i (ent_none (ent_none (ent_none ent_nil)))))))) ?_
  refine V_const dX0_sum_0 ?_
  refine V_is5 dX0_sum_1 (by decide) (noL_i _) ?_
  refine V_const dX0_sum_3 ?_
  refine V_is6 dX0_sum_4 (by decide) (noL_i _) ?_
  exact V.sub (lsS (lsS (lsS (lsS (lsS (lsS (lsS (lsN ls0)))))))) (lp_X0_sum ho hc hc34 hh acc [] 0 rfl (by rw [Int32.zero_add]; exact q))
def CtOk (x : Nat) (t : TT) (I : MI) (R : MR) (J : MI) (B : MR) (cc : Nat → List CC) : Prop := ∀ j, j < 10 → (B (x + 132) j = none ∧ cc j = []) ∨ ∃ co a0 a1 a2 a3, B (x + 132) j = some co ∧ CoSt t R co a0 a1 a2 a3 ∧ I 4 co = nI (cc j).length ∧ (cc j).length ≤ 34 ∧ CoHas J a0 a1 a2 a3 (cc j) ∧ (a0 ≠ x + 139 ∧ a0 ≠ x + 140) ∧ (a1 ≠ x + 139 ∧ a1 ≠ x + 140) ∧ (a2 ≠ x + 139 ∧ a2 ≠ x + 140) ∧ (a3 ≠ x + 139 ∧ a3 ≠ x + 140)
def drOk (I : MI) (a v nf : Nat) (k : Int32) : Prop := I 304 a = nI v ∧ I 309 a = 0 ∧ 0 ≤ k ∧ k ≤ jmin 40 (nI nf)
theorem dr_k {k : Int32} {nf : Nat} (hn : nf ≤ 5000) (h : 0 ≤ k ∧ k ≤ jmin 40 (nI nf)) : ∃ K : Nat, k = nI K ∧ K ≤ 40 ∧ K ≤ nf := by
  obtain ⟨K, h1, h2, h3⟩ := i_nat h.1
  have e := h.2
  unfold jmin at e
  have e40 : (40 : Int32).toInt = 40 := rfl
  have en := nI_toInt (show nf < 2 ^ 31 by omega)
  refine ⟨K, h1, ?_, ?_⟩ <;> split at e <;> rw [i_le] at e <;> rename_i hc <;> rw [i_lt] at hc <;> omega
theorem CoHas.of {J J2 : MI} {a0 a1 a2 a3 : Nat} {acc : List CC} (e0 : J2 a0 = J a0) (e1 : J2 a1 = J a1) (e2 : J2 a2 = J a2) (e3 : J2 a3 = J a3) (h : CoHas J a0 a1 a2 a3 acc) : CoHas J2 a0 a1 a2 a3 acc := by
  intro j c hj
  rw [e0, e1, e2, e3]
  exact h j c hj
theorem sem_X11_draw {l : Launch} {D : va_G} {A : Nat → Prop} {z : Nat} {t : TT} {I : MI} {R : MR} {J : MI} {B : MR} {x n w : Nat} {lt k : Int32} {sd : Int64} {la nf mk : Nat → Nat} {cc : Nat → List CC} {Φ : PP} (hX : XSt x t I R B) (hn : I 401 (x + 127) = nI n) (hn2 : n ≤ 300) (hw : I 1111 x = nI w) (hla : ∀ i, i < n → B (x + 128) i = some (la i) ∧ (t (la i)).1 = 4 ∧ (I 305 (la i) = nI (nf i) ∧ nf i ≤ 5000) ∧ I 301 (la i) = nI (mk i) ∧ mk i < 10) (hct : CtOk x t I R J B cc) (q0 : (∀ v, v < n → lt = nI v → ¬ drOk I (la v) v (nf v) k) → Φ (some (.int (-1))) z t I R J B) (q : ∀ v K, v < n → lt = nI v → k = nI K → K ≤ 40 → K ≤ nf v → drOk I (la v) v (nf v) k → ∀ (J2 : MI) (c2 : Nat), (∀ b, b ≠ x + 139 → b ≠ x + 140 → J2 b = J b) → Φ (some (.int (drA (I 303 (la v)) (nf v) K 0 sd id 0))) z t (up2 (up2 (up2 I 202 (x + 138) (nI c2)) 309 (la v) 1) 310 (la v) (I 308 (la v) + suF (drA (I 303 (la v)) (nf v) K 0 sd id 0) (nI K) (nI (nf v)) (nI w - I 302 (la v)) (cc (mk v)))) R J2 B) : Sem l D A 2 0 0 mX11_draw [va_rf (some x), .int lt, .int k, .long sd] z t I R J B Φ := by
  refine Sem.run [some (va_rf (some x)), some (.int lt), some (.int k), some (.long sd), none, none, none, none] (by decide) rfl (ent_r (ent_i (ent_i (ent_l (ent_none (ent_none (ent_none ent_nil))))))) ?_
  refine V_aload dX11_draw_0 rfl ?_
  refine V_getRs fk_X11_47 dX11_draw_1 hX.hx hX.lo.1 ?_
  refine V_iload dX11_draw_4 rfl ?_
  refine V_invV (As := [_]) mv_X4_numbered lk_X11_140 dX11_draw_5 (c := 4) (by decide) rfl rfl hX.lo.2.1 rfl rfl (Nat.le_of_ble_eq_true rfl) ⟨⟨by decide, by decide⟩, by decide, by decide⟩ (sem_X4_numbered hX.lo.2.1 hX.lo.2.2.1 hX.lo.2.2.2 hn hn2 (fun ho3 => ?_) (fun v hv hvv => ?_))
  · refine V_as5 dX11_draw_8 (by decide) noL_n ?_
    refine V_aload dX11_draw_10 rfl ?_
    refine V_ifnull dX11_draw_12 (fun hn12 => ?_) (fun a12 hs12 => ?_)
    · refine V_const dX11_draw_32 ?_
      exact V_iret dX11_draw_33 rfl (by decide) (by decide) (q0 (fun v hv e => absurd e (ho3 v hv)))
    · exact absurd hs12 (by simp)
  · rw [(hla v hv).1]
    obtain ⟨hta, ⟨hnf, hnf2⟩, hmk, hmk2⟩ := (hla v hv).2
    refine V_as5 dX11_draw_8 (by decide) noL_n ?_
    refine V_aload dX11_draw_10 rfl ?_
    refine V_ifnull dX11_draw_12 (fun hn12 => ?_) (fun a12 hs12 => ?_)
    · exact absurd hn12 (by simp)
    · cases hs12
      refine V_aload dX11_draw_15 rfl ?_
      refine V_getIs fk_X11_175 dX11_draw_17 hta rfl ?_
      refine V_iload dX11_draw_20 rfl ?_
      refine V_icmp_ne dX11_draw_21 (fun hc21 => ?_) (fun hc21 => ?_)
      · rw [hvv] at hc21
        refine V_const dX11_draw_32 ?_
        exact V_iret dX11_draw_33 rfl (by decide) (by decide) (q0 (fun v2 hv2 e => by obtain rfl := (nI_eq (by omega) (by omega)).mp (hvv.symm.trans e); exact fun h => hc21 h.1))
      · refine V_aload dX11_draw_24 rfl ?_
        refine V_getI fk_X11_234 dX11_draw_26 hta ?_
        refine V_if_eq dX11_draw_29 (fun hc29 => ?_) (fun hc29 => ?_)
        · refine V_iload dX11_draw_34 rfl ?_
          refine V_const dX11_draw_35 ?_
          refine V_const dX11_draw_36 ?_
          refine V_aload dX11_draw_38 rfl ?_
          refine V_getIs fk_X11_238 dX11_draw_40 hta hnf ?_
          refine V_jmin dX11_draw_43 lk_X11_241 (by decide) (by decide) (by decide) (by decide) (Nat.le_of_ble_eq_true rfl) ?_
          refine V_invS (As := [_, _, _]) ms_X11_within lk_X11_89 dX11_draw_46 rfl rfl rfl (Nat.le_of_ble_eq_true rfl) ⟨⟨by decide, by decide⟩, by decide, by decide⟩ (sem_X11_within ?_)
          refine V_if_ne dX11_draw_49 (fun hc49 => ?_) (fun hc49 => ?_)
          · rw [bI_n0] at hc49
            obtain ⟨K, hK, hK2, hK3⟩ := dr_k hnf2 hc49
            subst hK
            refine V_aload dX11_draw_54 rfl ?_
            refine V_getRs fk_X11_81 dX11_draw_55 hX.hx hX.li.1 ?_
            refine V_aload dX11_draw_58 rfl ?_
            refine V_iload dX11_draw_60 rfl ?_
            refine V_lload dX11_draw_61 rfl ?_
            refine V_invV (As := [_, _, _]) mv_X2_badDrawn lk_X11_247 dX11_draw_62 (c := 2) (by decide) rfl rfl hX.li.2.1 rfl rfl (Nat.le_of_ble_eq_true rfl) ⟨⟨by decide, by decide⟩, by decide, by decide⟩ (sem_X2_badDrawn ⟨hX.li.2.1, ⟨hX.li.2.2.1, hX.li.2.2.2.2.1⟩, ⟨hX.li.2.2.2.1, hX.li.2.2.2.2.2⟩, by omega⟩ hta hnf (by omega) rfl hK2 hK3 (fun J2 c2 hf2 => ?_))
            refine V_is6 dX11_draw_65 (by decide) (noL_r _) ?_
            refine V_aload dX11_draw_67 rfl ?_
            refine V_const dX11_draw_69 ?_
            refine V_putI fk_X11_234 (Or.inl rfl) rfl rfl dX11_draw_70 hta ?_
            refine V_aload dX11_draw_73 rfl ?_
            refine V_aload dX11_draw_75 rfl ?_
            refine V_getIs fk_X11_130 dX11_draw_77 hta ((up2n (by decide)).trans (up2n (by decide))) ?_
            refine V_putI fk_X11_251 (Or.inl rfl) rfl rfl dX11_draw_80 hta ?_
            refine V_aload dX11_draw_83 rfl ?_
            refine V_getRs fk_X11_69 dX11_draw_84 hX.hx hX.co.1 ?_
            refine V_aload dX11_draw_87 rfl ?_
            refine V_getIs fk_X11_166 dX11_draw_89 hta (((up2n (by decide)).trans ((up2n (by decide)).trans (up2n (by decide)))).trans hmk) ?_
            refine V_aald (j := 4) dX11_draw_92 rfl (by decide) hX.co.2 rfl hmk2 (by decide) ?_
            refine V_as7 dX11_draw_93 (by decide) (noL_i _) ?_
            refine V_aload dX11_draw_95 rfl ?_
            refine V_ifnull dX11_draw_97 (fun hn97 => ?_) (fun a97 hs97 => ?_)
            · have hcn : B (x + 132) (mk v) = none := hn97
              refine V_iload dX11_draw_133 rfl ?_
              exact V_iret dX11_draw_135 rfl (by decide) (by decide) (by have q2 := q v K hv hvv rfl hK2 hK3 ⟨hc21.trans hvv, hc29, hc49⟩ J2 c2 hf2; have h1 : cc (mk v) = [] := (hct (mk v) hmk2).elim (fun h => h.2) (fun ⟨co, a0, a1, a2, a3, h1, _⟩ => by rw [h1] at hcn; cases hcn); rw [h1, suF, Int32.add_zero] at q2; exact q2)
            · have hcs : B (x + 132) (mk v) = some a97 := hs97
              rcases hct (mk v) hmk2 with ⟨h1, _⟩ | ⟨co, a0, a1, a2, a3, h1, h2, h3, h4, h5, h6, h7, h8, h9⟩
              · rw [h1] at hcs; cases hcs
              rw [h1] at hcs
              cases hcs
              rw [h1]
              refine V_aload dX11_draw_100 rfl ?_
              refine V_dupr dX11_draw_102 ?_
              refine V_getIs fk_X11_251 dX11_draw_103 hta up2s ?_
              refine V_aload dX11_draw_106 rfl ?_
              refine V_iload dX11_draw_108 rfl ?_
              refine V_iload dX11_draw_110 rfl ?_
              refine V_aload dX11_draw_111 rfl ?_
              refine V_getIs fk_X11_238 dX11_draw_113 hta (((up2n (by decide)).trans ((up2n (by decide)).trans (up2n (by decide)))).trans hnf) ?_
              refine V_aload dX11_draw_116 rfl ?_
              refine V_getIs fk_X11_121 dX11_draw_117 hX.hx (((up2n (by decide)).trans ((up2n (by decide)).trans (up2n (by decide)))).trans hw) ?_
              refine V_aload dX11_draw_120 rfl ?_
              refine V_getIs fk_X11_169 dX11_draw_122 hta ((up2n (by decide)).trans ((up2n (by decide)).trans (up2n (by decide)))) ?_
              refine V_isub dX11_draw_125 ?_
              refine V_invV (As := [_, _, _, _]) mv_X0_sum lk_X11_254 dX11_draw_126 (c := 0) (by decide) rfl rfl h2.1 rfl rfl (Nat.le_of_ble_eq_true rfl) ⟨⟨by decide, by decide⟩, by decide, by decide⟩ (sem_X0_sum (acc := cc (mk v)) h2 (((up2n (by decide)).trans ((up2n (by decide)).trans (up2n (by decide)))).trans h3) h4 (CoHas.of (hf2 _ h6.1 h6.2) (hf2 _ h7.1 h7.2) (hf2 _ h8.1 h8.2) (hf2 _ h9.1 h9.2) h5) ?_)
              refine V_iadd dX11_draw_129 ?_
              refine V_putI fk_X11_251 (Or.inl rfl) rfl rfl dX11_draw_130 hta ?_
              refine V_iload dX11_draw_133 rfl ?_
              exact V_iret dX11_draw_135 rfl (by decide) (by decide) (by rw [up2_uu]; exact q v K hv hvv rfl hK2 hK3 ⟨hc21.trans hvv, hc29, hc49⟩ J2 c2 hf2)
          · rw [bI_0] at hc49
            refine V_const dX11_draw_52 ?_
            exact V_iret dX11_draw_53 rfl (by decide) (by decide) (q0 (fun v2 hv2 e => by obtain rfl := (nI_eq (by omega) (by omega)).mp (hvv.symm.trans e); exact fun h => hc49 h.2.2))
        · refine V_const dX11_draw_32 ?_
          exact V_iret dX11_draw_33 rfl (by decide) (by decide) (q0 (fun v2 hv2 e => by obtain rfl := (nI_eq (by omega) (by omega)).mp (hvv.symm.trans e); exact fun h => hc29 h.2.1))
