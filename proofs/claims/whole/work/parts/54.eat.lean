-- EATING: cask by cask, and many at once
theorem nI_m (a b : Nat) : nI a * nI b = nI (a * b) := (Int32.ofNat_mul a b).symm
theorem nI_d {a b : Nat} (ha : a < 2147483648) (hb : b < 2147483648) : nI a / nI b = nI (a / b) := by
  have hd : a / b ≤ a := Nat.div_le_self a b
  apply Int32.toInt_inj.mp
  rw [Int32.toInt_div, nI_toInt (by omega), nI_toInt (by omega), nI_toInt (by omega), ← Int.ofNat_tdiv]
  have h0 : (0 : Int) ≤ ((a / b : Nat) : Int) := Int.natCast_nonneg _
  apply Int.bmod_eq_of_le <;> omega
theorem nI_min {a b : Nat} (ha : a < 2147483648) (hb : b < 2147483648) : jmin (nI a) (nI b) = nI (min a b) := by
  unfold jmin
  by_cases h : b < a
  · rw [if_pos (nI_lt h (by omega)), Nat.min_eq_right (by omega)]
  · rw [if_neg (nI_nlt (by omega) (by omega)), Nat.min_eq_left (by omega)]
theorem nI_max {a b : Nat} (ha : a < 1073741824) (hb : b < 1073741824) : jmax 0 (nI a - nI b) = nI (a - b) := by
  unfold jmax
  by_cases h : b < a
  · rw [nI_sub (by omega), if_pos]
    rw [i_lt, nI_toInt (by omega)]
    show (0 : Int) < _
    omega
  · rw [show a - b = 0 by omega, if_neg]
    · rfl
    · rw [i_lt, Int32.toInt_sub, nI_toInt (by omega), nI_toInt (by omega), Int.bmod_eq_of_le (by omega) (by omega)]
      show ¬ (0 : Int) < _
      omega
theorem nI_p {a : Nat} (h : 0 < a) (ha : a < 2147483648) : ¬ nI a ≤ 0 := nI_nle h (by omega)
theorem z_le : nI 0 ≤ 0 := by decide
def eQ (nd r : Nat) : Nat := (nd + r - 1) / r
theorem op_nop {w c r : Int32} (h : w ≤ 0 ∨ c ≤ 0) : opN w c r = 0 ∧ (∀ le, opL le w c r = le) ∧ opW w c r = w := by
  have h3 : w ≤ 0 ∨ c ≤ 0 ∨ r ≤ 0 := by
    rcases h with h | h
    · exact Or.inl h
    · exact Or.inr (Or.inl h)
  exact ⟨if_pos h3, fun _ => if_pos h3, if_pos h3⟩
theorem eQ_le {nd r : Nat} (hr : 1 ≤ r) : eQ nd r ≤ nd + r := by
  have := Nat.div_le_self (nd + r - 1) r
  unfold eQ; omega
theorem op_N {nd c r : Nat} (h1 : 1 ≤ nd) (h2 : nd ≤ 7000) (h3 : 1 ≤ c) (h4 : c ≤ 5000) (h5 : 1 ≤ r) (h6 : r ≤ 500) : opN (nI nd) (nI c) (nI r) = nI (min c (eQ nd r)) ∧ (∀ le, opL le (nI nd) (nI c) (nI r) = nI (min c (eQ nd r) * r - nd)) ∧ opW (nI nd) (nI c) (nI r) = nI (nd - min c (eQ nd r) * r) := by
  have hno : ¬ (nI nd ≤ 0 ∨ nI c ≤ 0 ∨ nI r ≤ 0) := by
    rintro (q | q | q)
    · exact nI_p h1 (by omega) q
    · exact nI_p h3 (by omega) q
    · exact nI_p h5 (by omega) q
  have hq := eQ_le (nd := nd) h5
  have eN : opN (nI nd) (nI c) (nI r) = nI (min c (eQ nd r)) := by
    unfold opN
    rw [if_neg hno, nI_add, show (1 : Int32) = nI 1 from rfl, nI_sub (by omega), nI_d (by omega) (by omega), nI_min (by omega) (by unfold eQ at hq; omega)]
    rfl
  have hm : min c (eQ nd r) * r ≤ 5000 * 500 := Nat.mul_le_mul (by omega) h6
  refine ⟨eN, fun le => ?_, ?_⟩
  · unfold opL
    rw [if_neg hno, eN, nI_m, nI_max (by omega) (by omega)]
  · unfold opW
    rw [if_neg hno, eN, nI_m, nI_max (by omega) (by omega)]
theorem eQ_1 {nd r : Nat} (h1 : 1 ≤ nd) (h2 : nd ≤ r) : eQ nd r = 1 := by
  unfold eQ
  exact Nat.div_eq_of_lt_le (by omega) (by omega)
theorem eQ_s {nd r : Nat} (h1 : 1 ≤ r) (h2 : r < nd) : eQ nd r = eQ (nd - r) r + 1 := by
  unfold eQ
  rw [show nd + r - 1 = (nd - r + r - 1) + r by omega, Nat.add_div_right _ (by omega)]
/-- one cask, then the rest at once -/
theorem op_1 {nd c r : Nat} (h1 : 1 ≤ nd) (h2 : nd ≤ 7000) (h3 : 1 ≤ c) (h4 : c ≤ 5000) (h5 : 1 ≤ r) (h6 : r ≤ 500) : opN (nI nd) (nI c) (nI r) = 1 + opN (nI (nd - min nd r)) (nI (c - 1)) (nI r) ∧ (∀ le, opL le (nI nd) (nI c) (nI r) = opL (nI (r - min nd r)) (nI (nd - min nd r)) (nI (c - 1)) (nI r)) ∧ opW (nI nd) (nI c) (nI r) = opW (nI (nd - min nd r)) (nI (c - 1)) (nI r) := by
  obtain ⟨a1, a2, a3⟩ := op_N h1 h2 h3 h4 h5 h6
  by_cases hle : nd ≤ r
  · rw [show nd - min nd r = 0 by omega, show r - min nd r = r - nd by omega]
    obtain ⟨b1, b2, b3⟩ := op_nop (w := nI 0) (c := nI (c - 1)) (r := nI r) (Or.inl z_le)
    rw [eQ_1 h1 hle, show min c 1 = 1 by omega] at a1 a2 a3
    rw [Nat.one_mul] at a2 a3
    refine ⟨by rw [a1, b1]; rfl, fun le => by rw [a2, b2], by rw [a3, b3, show nd - r = 0 by omega]⟩
  · rw [show nd - min nd r = nd - r by omega, show r - min nd r = 0 by omega]
    rw [eQ_s h5 (by omega)] at a1 a2 a3
    by_cases hc : c = 1
    · subst hc
      obtain ⟨b1, b2, b3⟩ := op_nop (w := nI (nd - r)) (c := nI (1 - 1)) (r := nI r) (Or.inr (by decide))
      rw [show min 1 (eQ (nd - r) r + 1) = 1 by omega] at a1 a2 a3
      rw [Nat.one_mul] at a2 a3
      refine ⟨by rw [a1, b1]; rfl, fun le => by rw [a2, b2, show r - nd = 0 by omega], by rw [a3, b3]⟩
    · obtain ⟨b1, b2, b3⟩ := op_N (nd := nd - r) (c := c - 1) (by omega) (by omega) (by omega) (by omega) h5 h6
      rw [show min c (eQ (nd - r) r + 1) = min (c - 1) (eQ (nd - r) r) + 1 by omega] at a1 a2 a3
      generalize min (c - 1) (eQ (nd - r) r) = k at a1 a2 a3 b1 b2 b3
      rw [Nat.add_mul, Nat.one_mul] at a2 a3
      generalize k * r = kr at a2 a3 b2 b3
      refine ⟨by rw [a1, b1, Nat.add_comm, ← nI_add]; rfl, fun le => by rw [a2, b2, show kr + r - nd = kr - (nd - r) by omega], by rw [a3, b3, show nd - (kr + r) = nd - r - kr by omega]⟩
abbrev EE : Type := (Nat → Int32) × Int32 × Int32 × Int32
/-- the casks of lot l that are opened: casks, open, wanted, opened in all -/
def bst (el : Nat → Bool) (r : Int32) (s : EE) (l : Nat) : EE := if el l = true then (va_up s.1 l (s.1 l - opN s.2.2.1 (s.1 l) r), opL s.2.1 s.2.2.1 (s.1 l) r, opW s.2.2.1 (s.1 l) r, s.2.2.2 + opN s.2.2.1 (s.1 l) r) else s
theorem va_idem {f : Nat → Int32} {a : Nat} : va_up f a (f a) = f := by
  funext b
  by_cases e : b = a
  · subst e; rw [va_up_self]
  · rw [va_up_ne _ _ e]
theorem va_twice {f : Nat → Int32} {a : Nat} {u v : Int32} : va_up (va_up f a u) a v = va_up f a v := by
  funext b
  by_cases e : b = a
  · subst e; rw [va_up_self, va_up_self]
  · rw [va_up_ne _ _ e, va_up_ne _ _ e, va_up_ne _ _ e]
theorem i_sub0 (x : Int32) : x - 0 = x := by simp
theorem bst_nop {el : Nat → Bool} {r : Int32} {s : EE} {l : Nat} (h : el l = true → s.1 l ≤ 0 ∨ s.2.2.1 ≤ 0) : bst el r s l = s := by
  unfold bst
  by_cases e : el l = true
  · obtain ⟨b1, b2, b3⟩ := op_nop (w := s.2.2.1) (c := s.1 l) (r := r) (Or.symm (h e))
    rw [if_pos e, b1, b2, b3, i_sub0, Int32.add_zero, va_idem]
  · rw [if_neg e]
theorem fold_nop {el : Nat → Bool} {r : Int32} {s : EE} : ∀ L : List Nat, (∀ l ∈ L, el l = true → s.1 l ≤ 0 ∨ s.2.2.1 ≤ 0) → L.foldl (bst el r) s = s
  | [], _ => rfl
  | a :: L, h => by
    rw [List.foldl_cons, bst_nop (h a List.mem_cons_self)]
    exact fold_nop L (fun l hl => h l (List.mem_cons_of_mem _ hl))
theorem Nn.pos {v : Int32} {b : Nat} (h : Nn v b) (hb : b < 2147483648) (hp : 0 < v) : ∃ k, 1 ≤ k ∧ k ≤ b ∧ v = nI k := by
  obtain ⟨k, hk, e⟩ := h
  refine ⟨k, ?_, hk, e⟩
  rw [e, i_lt, nI_toInt (by omega)] at hp
  have : (0 : Int32).toInt = 0 := rfl
  omega
theorem one_le {v : Int32} {b : Nat} (h : Nn v b) (hb : b < 2147483648) (hp : 1 ≤ v) : ∃ k, 1 ≤ k ∧ k ≤ b ∧ v = nI k := by
  obtain ⟨k, hk, e⟩ := h
  refine ⟨k, ?_, hk, e⟩
  rw [e, i_le, nI_toInt (by omega)] at hp
  have : (1 : Int32).toInt = 1 := rfl
  omega
theorem bst_1 {el : Nat → Bool} {r le nd op : Int32} {c : Nat → Int32} {l : Nat} (hel : el l = true) (hc : Nn (c l) 5000) (hc0 : 0 < c l) (hn : Nn nd 7000) (hn0 : 0 < nd) (hr : Nn r 500) (hr1 : 1 ≤ r) : bst el r (c, le, nd, op) l = bst el r (va_up c l (c l - 1), r - jmin nd r, nd - jmin nd r, op + 1) l := by
  obtain ⟨k, k1, k2, ek⟩ := hc.pos (by decide) hc0
  obtain ⟨d, d1, d2, ed⟩ := hn.pos (by decide) hn0
  obtain ⟨q, q1, q2, eq⟩ := one_le hr (by decide) hr1
  obtain ⟨a1, a2, a3⟩ := op_1 d1 d2 k1 k2 q1 q2
  subst ed
  subst eq
  have e1 : (nI k : Int32) - 1 = nI (k - 1) := nI_sub (a := k) (b := 1) k1
  unfold bst
  rw [if_pos hel, if_pos hel]
  show ((va_up c l (c l - opN (nI d) (c l) (nI q)), opL le (nI d) (c l) (nI q), opW (nI d) (c l) (nI q), op + opN (nI d) (c l) (nI q)) : EE) = (va_up (va_up c l (c l - 1)) l (va_up c l (c l - 1) l - opN (nI d - jmin (nI d) (nI q)) (va_up c l (c l - 1) l) (nI q)), opL (nI q - jmin (nI d) (nI q)) (nI d - jmin (nI d) (nI q)) (va_up c l (c l - 1) l) (nI q), opW (nI d - jmin (nI d) (nI q)) (va_up c l (c l - 1) l) (nI q), op + 1 + opN (nI d - jmin (nI d) (nI q)) (va_up c l (c l - 1) l) (nI q))
  rw [va_up_self, va_twice, ek, nI_min (by omega) (by omega), nI_sub (by omega), nI_sub (by omega), e1, a1, a2, a3, Int32.add_assoc]
  have e2 : ∀ y : Int32, nI k - (1 + y) = nI (k - 1) - y := fun y => by
    rw [← e1]
    simp only [Int32.sub_eq_add_neg, Int32.neg_add, Int32.add_assoc]
  rw [e2]
theorem fold_1 {el : Nat → Bool} {r le nd op : Int32} {c : Nat → Int32} {l : Nat} (hn : Nn nd 7000) (hn0 : 0 < nd) (hr : Nn r 500) (hr1 : 1 ≤ r) (hc : Nn (c l) 5000) (hc0 : 0 < c l) : ∀ L : List Nat, L.Nodup → L.find? (fun j => el j && decide (0 < c j)) = some l → L.foldl (bst el r) (c, le, nd, op) = L.foldl (bst el r) (va_up c l (c l - 1), r - jmin nd r, nd - jmin nd r, op + 1)
  | [], _, h => by simp at h
  | a :: L, hd, h => by
    rw [List.nodup_cons] at hd
    rw [List.foldl_cons, List.foldl_cons]
    rw [List.find?_cons] at h
    by_cases e : (el a && decide (0 < c a)) = true
    · rw [e] at h
      have e9 : a = l := Option.some.inj h
      subst e9
      rw [Bool.and_eq_true] at e
      rw [bst_1 e.1 hc hc0 hn hn0 hr hr1]
    · have e' : (el a && decide (0 < c a)) = false := by simpa using e
      rw [e'] at h
      have hl : l ∈ L := List.mem_of_find?_eq_some h
      have hne : a ≠ l := fun q => hd.1 (by rw [q]; exact hl)
      have hz : el a = true → c a ≤ 0 := fun q => by
        rw [q, Bool.true_and, decide_eq_false_iff_not] at e'
        rw [i_lt] at e'
        rw [i_le]
        omega
      rw [bst_nop (s := (c, le, nd, op)) (fun q => Or.inl (hz q)), bst_nop (s := (va_up c l (c l - 1), r - jmin nd r, nd - jmin nd r, op + 1)) (fun q => Or.inl (by show va_up c l (c l - 1) a ≤ 0; rw [va_up_ne _ _ hne]; exact hz q))]
      exact fold_1 hn hn0 hr hr1 hc hc0 L hd.2 h
-- the oldest
theorem bef_asym {f : Nat → Int32} {a b : Nat} (h : before f a b) : ¬ before f b a := by
  unfold before at h ⊢
  rw [i_lt, ← Int32.toInt_inj] at h
  rw [i_lt, ← Int32.toInt_inj]
  omega
def oE (J : MI) (m : Nat) (p k : Int32) (of cm : Nat → Int32) (l : Nat) : Prop := J (m + 10) l = p ∧ J (m + 7) l = k ∧ cm l = -1 ∧ 0 < of l
theorem old_sp {J : MI} {m : Nat} {p k : Int32} {of cm : Nat → Int32} : ∀ (n i : Nat) (o : Option Nat), ((o = none → ∀ l, l < i → ¬ oE J m p k of cm l) ∧ ∀ b, o = some b → b < i ∧ oE J m p k of cm b ∧ ∀ l, l < i → oE J m p k of cm l → l = b ∨ before (J (m + 8)) b l) → (itr (oldF J m p k of cm) i n o = none → ∀ l, l < i + n → ¬ oE J m p k of cm l) ∧ ∀ b, itr (oldF J m p k of cm) i n o = some b → b < i + n ∧ oE J m p k of cm b ∧ ∀ l, l < i + n → oE J m p k of cm l → l = b ∨ before (J (m + 8)) b l
  | 0, i, o, h => h
  | n + 1, i, o, h => by
    rw [itr, show i + (n + 1) = i + 1 + n by omega]
    refine old_sp n (i + 1) _ ?_
    obtain ⟨h1, h2⟩ := h
    by_cases c : oldC J m p k of cm i o
    · rw [oldF_t c]
      refine ⟨fun q => by simp at q, fun b q => ?_⟩
      have q : i = b := Option.some.inj q
      subst q
      obtain ⟨c1, c2, c3, c4, c5⟩ := c
      refine ⟨by omega, ⟨c1, c2, c3, c4⟩, fun l hl he => ?_⟩
      by_cases e : l = i
      · exact Or.inl e
      · refine Or.inr (Or.inl ?_)
        cases o with
        | none => exact absurd he (h1 rfl l (by omega))
        | some b =>
          have q1 := c5 b rfl
          rcases (h2 b rfl).2.2 l (by omega) he with q | q
          · rw [q]; exact q1
          · unfold before at q
            rw [i_lt] at q1 ⊢
            rw [i_lt, ← Int32.toInt_inj] at q
            omega
    · rw [oldF_f c]
      refine ⟨fun q l hl he => ?_, fun b q => ?_⟩
      · by_cases e : l = i
        · subst e
          exact c ⟨he.1, he.2.1, he.2.2.1, he.2.2.2, fun b hb => by rw [q] at hb; cases hb⟩
        · exact h1 q l (by omega) he
      · obtain ⟨g1, g2, g3⟩ := h2 b q
        refine ⟨by omega, g2, fun l hl he => ?_⟩
        by_cases e : l = i
        · subst e
          have hnl : ¬ J (m + 8) l < J (m + 8) b := fun q2 => c ⟨he.1, he.2.1, he.2.2.1, he.2.2.2, fun b' hb' => by rw [q] at hb'; cases hb'; exact q2⟩
          refine Or.inr ?_
          unfold before
          rw [i_lt] at hnl ⊢
          rw [← Int32.toInt_inj]
          omega
        · exact g3 l (by omega) he
def elM (f10 f7 f11 : Nat → Int32) (p k : Nat) (l : Nat) : Bool := decide (f10 l = nI p) && (decide (f7 l = nI k) && decide (f11 l = -1))
theorem find_sp {P : Nat → Bool} {f : Nat → Int32} : ∀ L : List Nat, L.Pairwise (before f) → ∀ l, L.find? P = some l → ∀ j ∈ L, P j = true → j = l ∨ before f l j
  | [], _, l, h => by simp at h
  | a :: L, hp, l, h => by
    rw [List.pairwise_cons] at hp
    intro j hj hP
    rw [List.find?_cons] at h
    by_cases e : P a = true
    · rw [e] at h
      have h : a = l := Option.some.inj h
      subst h
      rcases List.mem_cons.mp hj with q | q
      · exact Or.inl q
      · exact Or.inr (hp.1 j q)
    · have e' : P a = false := by simpa using e
      rw [e'] at h
      rcases List.mem_cons.mp hj with q | q
      · rw [q] at hP; exact absurd hP e
      · exact find_sp L hp.2 l h j q hP
theorem old_find {J : MI} {m p k N : Nat} {of cm : Nat → Int32} {L : List Nat} (hL : L.Perm (List.range N)) (hs : L.Pairwise (before (J (m + 8)))) : oldR J m (nI p) (nI k) of cm N = L.find? (fun j => elM (J (m + 10)) (J (m + 7)) cm p k j && decide (0 < of j)) := by
  have hE : ∀ l, (elM (J (m + 10)) (J (m + 7)) cm p k l && decide (0 < of l)) = true ↔ oE J m (nI p) (nI k) of cm l := fun l => by
    unfold elM oE
    simp only [Bool.and_eq_true, decide_eq_true_eq, and_assoc]
  obtain ⟨h1, h2⟩ := old_sp (J := J) (m := m) (p := nI p) (k := nI k) (of := of) (cm := cm) N 0 none ⟨fun _ l hl => by omega, fun b q => by cases q⟩
  rw [Nat.zero_add] at h1 h2
  have hm : ∀ l, l ∈ L ↔ l < N := fun l => by rw [hL.mem_iff, List.mem_range]
  cases hq : L.find? (fun j => elM (J (m + 10)) (J (m + 7)) cm p k j && decide (0 < of j)) with
  | none =>
    rw [List.find?_eq_none] at hq
    cases ho : oldR J m (nI p) (nI k) of cm N with
    | none => rfl
    | some b =>
      obtain ⟨g1, g2, -⟩ := h2 b ho
      exact absurd ((hE b).mpr g2) (hq b ((hm b).mpr g1))
  | some l =>
    have l1 : l ∈ L := List.mem_of_find?_eq_some hq
    have l2 := List.find?_some hq
    have l3 := find_sp L hs l hq
    cases ho : oldR J m (nI p) (nI k) of cm N with
    | none => exact absurd ((hE l).mp l2) (h1 ho l ((hm l).mp l1))
    | some b =>
      obtain ⟨g1, g2, g3⟩ := h2 b ho
      rcases g3 l ((hm l).mp l1) ((hE l).mp l2) with q | q
      · rw [q]
      · rcases l3 b ((hm b).mpr g1) ((hE b).mpr g2) with r | r
        · rw [r]
        · exact absurd r (bef_asym q)
