-- EATING: a store's fold; the reference's stores one after another
theorem bst_c {el : Nat → Bool} {r : Int32} {s : EE} {l j : Nat} (h : j ≠ l ∨ el j = false) : (bst el r s l).1 j = s.1 j := by
  unfold bst
  by_cases e : el l = true
  · rw [if_pos e]
    show va_up s.1 l _ j = s.1 j
    rcases h with h | h
    · exact va_up_ne _ _ h
    · exact va_up_ne _ _ (fun q => by rw [q, e] at h; cases h)
  · rw [if_neg e]
theorem fold_c {el : Nat → Bool} {r : Int32} : ∀ (L : List Nat) (s : EE) (j : Nat), (j ∉ L ∨ el j = false) → (L.foldl (bst el r) s).1 j = s.1 j
  | [], _, _, _ => rfl
  | a :: L, s, j, h => by
    rw [List.foldl_cons, fold_c L _ j (by
      rcases h with h | h
      · exact Or.inl (fun q => h (List.mem_cons_of_mem _ q))
      · exact Or.inr h)]
    refine bst_c ?_
    rcases h with h | h
    · exact Or.inl (fun q => h (by rw [q]; exact List.mem_cons_self))
    · exact Or.inr h
theorem fold_cong {el el' : Nat → Bool} {r : Int32} {T : Nat → Prop} : ∀ (L : List Nat) (s s' : EE), (∀ l ∈ L, el l = el' l ∧ (el l = true → T l)) → s.2 = s'.2 → (∀ j, T j → s.1 j = s'.1 j) → (L.foldl (bst el r) s).2 = (L.foldl (bst el' r) s').2 ∧ ∀ j, T j → (L.foldl (bst el r) s).1 j = (L.foldl (bst el' r) s').1 j
  | [], _, _, _, h1, h2 => ⟨h1, h2⟩
  | a :: L, s, s', h, h1, h2 => by
    rw [List.foldl_cons, List.foldl_cons]
    have ha := h a List.mem_cons_self
    refine fold_cong L _ _ (fun l hl => h l (List.mem_cons_of_mem _ hl)) ?_ ?_
    · unfold bst
      rw [← ha.1]
      by_cases e : el a = true
      · rw [if_pos e, if_pos e, ← h2 a (ha.2 e), ← h1]
      · rw [if_neg e, if_neg e]; exact h1
    · intro j hj
      unfold bst
      rw [← ha.1]
      by_cases e : el a = true
      · rw [if_pos e, if_pos e]
        show va_up s.1 a _ j = va_up s'.1 a _ j
        by_cases ej : j = a
        · subst ej
          rw [va_up_self, va_up_self, ← h2 j hj, ← h1]
        · rw [va_up_ne _ _ ej, va_up_ne _ _ ej]; exact h2 j hj
      · rw [if_neg e, if_neg e]; exact h2 j hj
def EOk (n : Nat) (s : EE) : Prop := (∀ l, l < n → Nn (s.1 l) 5000) ∧ Nn s.2.1 500 ∧ Nn s.2.2.1 7000
theorem pos_of {v : Int32} (h : ¬ v ≤ 0) : 0 < v := by
  rw [i_le] at h
  rw [i_lt]
  omega
theorem bst_ok {el : Nat → Bool} {r : Int32} {n l : Nat} {s : EE} (h : EOk n s) (hl : l < n) (hr : Nn r 500) (hr1 : 1 ≤ r) : EOk n (bst el r s l) := by
  by_cases hz : el l = true → s.1 l ≤ 0 ∨ s.2.2.1 ≤ 0
  · rw [bst_nop hz]; exact h
  · have hel : el l = true := by
      by_cases q : el l = true
      · exact q
      · exact absurd (fun q2 => absurd q2 q) hz
    have hnc : ¬ s.1 l ≤ 0 := fun q => hz (fun _ => Or.inl q)
    have hnw : ¬ s.2.2.1 ≤ 0 := fun q => hz (fun _ => Or.inr q)
    obtain ⟨h1, h2, h3⟩ := h
    obtain ⟨k, k1, k2, ek⟩ := (h1 l hl).pos (by decide) (pos_of hnc)
    obtain ⟨d, d1, d2, ed⟩ := h3.pos (by decide) (pos_of hnw)
    obtain ⟨q, q1, q2, eq⟩ := one_le hr (by decide) hr1
    obtain ⟨a1, a2, a3⟩ := op_N d1 d2 k1 k2 q1 q2
    unfold bst
    rw [if_pos hel, ed, ek, eq, a1, a2, a3, nI_sub (by omega)]
    have hm : min k (eQ d q) * q ≤ d + q - 1 := Nat.le_trans (Nat.mul_le_mul_right q (Nat.min_le_right k (eQ d q))) (Nat.div_mul_le_self (d + q - 1) q)
    refine ⟨fun j hj => ?_, ⟨_, by omega, rfl⟩, ⟨_, by omega, rfl⟩⟩
    show Nn (va_up s.1 l _ j) 5000
    by_cases ej : j = l
    · subst ej
      rw [va_up_self]
      exact ⟨_, by omega, rfl⟩
    · rw [va_up_ne _ _ ej]; exact h1 j hj
theorem fold_ok {el : Nat → Bool} {r : Int32} {n : Nat} (hr : Nn r 500) (hr1 : 1 ≤ r) : ∀ (L : List Nat) (s : EE), (∀ l ∈ L, l < n) → EOk n s → EOk n (L.foldl (bst el r) s)
  | [], _, _, h => h
  | a :: L, s, hL, h => by
    rw [List.foldl_cons]
    exact fold_ok hr hr1 L _ (fun l hl => hL l (List.mem_cons_of_mem _ hl)) (bst_ok h (hL a List.mem_cons_self) hr hr1)
theorem nn_zero {v : Int32} {b : Nat} (h : Nn v b) (hb : b < 2147483648) (hz : v ≤ 0) : v = 0 := by
  have h1 := (h.int hb).1
  rw [i_le] at hz
  have h0 : (0 : Int32).toInt = 0 := rfl
  apply Int32.toInt_inj.mp
  omega
theorem eatS_o {m p k N b j : Nat} (hb : b ≠ m + 9) (hj : j ≠ 4 * p + k) : ∀ (f : Nat) (nd : Int32) (I J : MI), (eatS m p k N f nd I J).2 b j = J b j
  | 0, _, _, _ => rfl
  | f + 1, nd, I, J => by
    rw [eatS]
    split
    · rfl
    · cases oldR J m (nI p) (nI k) (J (m + 9)) (J (m + 11)) N with
      | none => exact up2o hj
      | some l =>
        show (eatS m p k N f _ _ _).2 b j = J b j
        rw [eatS_o hb hj f]
        rw [up2o hj, up2o hj, up2n hb]
theorem nd_step {nd r : Int32} (hn : Nn nd 7000) (hn0 : 0 < nd) (hr : Nn r 500) (hr1 : 1 ≤ r) : Nn (nd - jmin nd r) 7000 ∧ (nd - jmin nd r).toInt < nd.toInt := by
  obtain ⟨d, d1, d2, ed⟩ := hn.pos (by decide) hn0
  obtain ⟨q, q1, q2, eq⟩ := one_le hr (by decide) hr1
  rw [ed, eq, nI_min (by omega) (by omega), nI_sub (by omega)]
  refine ⟨⟨_, by omega, rfl⟩, ?_⟩
  rw [nI_toInt (by omega), nI_toInt (by omega)]
  omega
theorem cask_1 {c : Int32} (hc : Nn c 5000) (hc0 : 0 < c) : Nn (c - 1) 5000 := by
  obtain ⟨k, k1, k2, ek⟩ := hc.pos (by decide) hc0
  rw [ek, show (1 : Int32) = nI 1 from rfl, nI_sub k1]
  exact ⟨_, by omega, rfl⟩
set_option maxHeartbeats 4000000 in
theorem eatS_sp {m p k N : Nat} {L : List Nat} {F8 F10 F7 F11 : Nat → Int32} {r : Int32} (hL : L.Perm (List.range N)) (hs : L.Pairwise (before F8)) (hr : Nn r 500) (hr1 : 1 ≤ r) : ∀ (f : Nat) (nd : Int32) (I J : MI), J (m + 8) = F8 → J (m + 10) = F10 → J (m + 7) = F7 → J (m + 11) = F11 → J (m + 2) k = r → nd.toInt ≤ (f : Int) → Nn nd 7000 → (∀ l, l < N → Nn (J (m + 9) l) 5000) → ∀ e : EE, e = L.foldl (bst (elM F10 F7 F11 p k) r) (J (m + 9), J (m + 19) (4 * p + k), nd, J (m + 21) (4 * p + k)) → (eatS m p k N f nd I J).2 (m + 9) = e.1 ∧ (eatS m p k N f nd I J).2 (m + 19) (4 * p + k) = e.2.1 ∧ (eatS m p k N f nd I J).2 (m + 20) (4 * p + k) = J (m + 20) (4 * p + k) + e.2.2.1 ∧ (eatS m p k N f nd I J).2 (m + 21) (4 * p + k) = e.2.2.2 ∧ (eatS m p k N f nd I J).1 1203 m + J (m + 21) (4 * p + k) = I 1203 m + e.2.2.2
  | 0, nd, I, J, _, _, _, _, _, hf, hn, _, e, he => by
    have hz : nd ≤ 0 := by rw [i_le]; exact hf
    rw [fold_nop L (fun _ _ _ => Or.inr hz), nn_zero hn (by decide) hz] at he
    subst he
    exact ⟨rfl, rfl, (Int32.add_zero _).symm, rfl, rfl⟩
  | f + 1, nd, I, J, e8, e10, e7, e11, er, hf, hn, hc, e, he => by
    rw [eatS]
    by_cases hz : nd ≤ 0
    · rw [if_pos hz]
      rw [fold_nop L (fun _ _ _ => Or.inr hz), nn_zero hn (by decide) hz] at he
      subst he
      exact ⟨rfl, rfl, (Int32.add_zero _).symm, rfl, rfl⟩
    · rw [if_neg hz]
      have hn0 := pos_of hz
      have ho : oldR J m (nI p) (nI k) (J (m + 9)) (J (m + 11)) N = L.find? (fun j => elM F10 F7 F11 p k j && decide (0 < J (m + 9) j)) := by
        rw [old_find hL (by rw [e8]; exact hs), e10, e7, e11]
      rw [ho]
      cases hq : L.find? (fun j => elM F10 F7 F11 p k j && decide (0 < J (m + 9) j)) with
      | none =>
        rw [List.find?_eq_none] at hq
        rw [fold_nop L (fun l hl q => Or.inl (by
          have := hq l hl
          rw [q, Bool.true_and, decide_eq_true_eq] at this
          show J (m + 9) l ≤ 0
          rw [i_lt] at this
          rw [i_le]
          omega))] at he
        subst he
        exact ⟨up2_ne _ _ _ (by omega), up2n (by omega), up2s, up2n (by omega), by show I 1203 m + _ = _; rfl⟩
      | some l =>
        have hlm : l ∈ L := List.mem_of_find?_eq_some hq
        have hlN : l < N := List.mem_range.mp (hL.mem_iff.mp hlm)
        have hc0 : 0 < J (m + 9) l := by
          have := List.find?_some hq
          rw [Bool.and_eq_true, decide_eq_true_eq] at this
          exact this.2
        rw [fold_1 hn hn0 hr hr1 (hc l hlN) hc0 L (hL.nodup_iff.mpr List.nodup_range) hq] at he
        obtain ⟨n1, n2⟩ := nd_step hn hn0 hr hr1
        rw [er]
        show (eatS m p k N f (nd - jmin nd r) (up2 I 1203 m (I 1203 m + 1)) (up2 (up2 (up2 J (m + 9) l (J (m + 9) l - 1)) (m + 21) (4 * p + k) (J (m + 21) (4 * p + k) + 1)) (m + 19) (4 * p + k) (r - jmin nd r))).2 (m + 9) = _ ∧ (eatS m p k N f (nd - jmin nd r) (up2 I 1203 m (I 1203 m + 1)) (up2 (up2 (up2 J (m + 9) l (J (m + 9) l - 1)) (m + 21) (4 * p + k) (J (m + 21) (4 * p + k) + 1)) (m + 19) (4 * p + k) (r - jmin nd r))).2 (m + 19) (4 * p + k) = _ ∧ (eatS m p k N f (nd - jmin nd r) (up2 I 1203 m (I 1203 m + 1)) (up2 (up2 (up2 J (m + 9) l (J (m + 9) l - 1)) (m + 21) (4 * p + k) (J (m + 21) (4 * p + k) + 1)) (m + 19) (4 * p + k) (r - jmin nd r))).2 (m + 20) (4 * p + k) = _ ∧ (eatS m p k N f (nd - jmin nd r) (up2 I 1203 m (I 1203 m + 1)) (up2 (up2 (up2 J (m + 9) l (J (m + 9) l - 1)) (m + 21) (4 * p + k) (J (m + 21) (4 * p + k) + 1)) (m + 19) (4 * p + k) (r - jmin nd r))).2 (m + 21) (4 * p + k) = _ ∧ (eatS m p k N f (nd - jmin nd r) (up2 I 1203 m (I 1203 m + 1)) (up2 (up2 (up2 J (m + 9) l (J (m + 9) l - 1)) (m + 21) (4 * p + k) (J (m + 21) (4 * p + k) + 1)) (m + 19) (4 * p + k) (r - jmin nd r))).1 1203 m + _ = _
        generalize hJ1 : up2 (up2 (up2 J (m + 9) l (J (m + 9) l - 1)) (m + 21) (4 * p + k) (J (m + 21) (4 * p + k) + 1)) (m + 19) (4 * p + k) (r - jmin nd r) = J1
        have g : ∀ b, b ≠ m + 9 → b ≠ m + 21 → b ≠ m + 19 → J1 b = J b := fun b h1 h2 h3 => by rw [← hJ1, up2_ne _ _ _ h3, up2_ne _ _ _ h2, up2_ne _ _ _ h1]
        have g9 : J1 (m + 9) = va_up (J (m + 9)) l (J (m + 9) l - 1) := by rw [← hJ1, up2_ne _ _ _ (by omega), up2_ne _ _ _ (by omega), up2_self]
        have g19 : J1 (m + 19) (4 * p + k) = r - jmin nd r := by rw [← hJ1, up2s]
        have g21 : J1 (m + 21) (4 * p + k) = J (m + 21) (4 * p + k) + 1 := by rw [← hJ1, up2n (by omega), up2s]
        obtain ⟨a1, a2, a3, a4, a5⟩ := eatS_sp hL hs hr hr1 f (nd - jmin nd r) (up2 I 1203 m (I 1203 m + 1)) J1 ((g _ (by omega) (by omega) (by omega)).trans e8) ((g _ (by omega) (by omega) (by omega)).trans e10) ((g _ (by omega) (by omega) (by omega)).trans e7) ((g _ (by omega) (by omega) (by omega)).trans e11) (by rw [g _ (by omega) (by omega) (by omega)]; exact er) (by omega) n1 (fun j hj => by
          rw [g9]
          by_cases ej : j = l
          · subst ej; rw [va_up_self]; exact cask_1 (hc j hj) hc0
          · rw [va_up_ne _ _ ej]; exact hc j hj) e (by rw [g9, g19, g21]; exact he)
        refine ⟨a1, a2, by rw [a3, g _ (by omega) (by omega) (by omega)], a4, ?_⟩
        rw [g21, up2s] at a5
        have : (eatS m p k N f (nd - jmin nd r) (up2 I 1203 m (I 1203 m + 1)) J1).1 1203 m + J (m + 21) (4 * p + k) + 1 = I 1203 m + e.2.2.2 + 1 := by
          rw [Int32.add_assoc, a5, Int32.add_assoc, Int32.add_assoc, Int32.add_comm 1]
        exact i_cancel this
/-- what a store's eating starts with -/
def le0 (mn op : Int32) : Int32 := op - jmin (7 * mn) op
def nd0 (mn op : Int32) : Int32 := 7 * mn - jmin (7 * mn) op
theorem need_ok {mn op : Int32} (h1 : Nn mn 1000) (h2 : Nn op 500) : Nn (le0 mn op) 500 ∧ Nn (nd0 mn op) 7000 := by
  obtain ⟨a, ha, ea⟩ := h1
  obtain ⟨b, hb, eb⟩ := h2
  unfold le0 nd0
  rw [ea, eb, show (7 : Int32) = nI 7 from rfl, nI_m, nI_min (by omega) (by omega), nI_sub (by omega), nI_sub (by omega)]
  exact ⟨⟨_, by omega, rfl⟩, ⟨_, by omega, rfl⟩⟩
theorem jmin_comm (x y : Int32) : jmin x y = jmin y x := by
  apply Int32.toInt_inj.mp
  rw [jmin_i, jmin_i]
  omega
/-- a store's eating, from the start of the week's meal -/
def esM (m : Nat) (L : List Nat) (J : MI) (s : Nat) : EE := L.foldl (bst (elM (J (m + 10)) (J (m + 7)) (J (m + 11)) (s / 4) (s % 4)) (J (m + 2) (s % 4))) (J (m + 9), le0 (J (m + 1) (s / 4)) (J (m + 19) s), nd0 (J (m + 1) (s / 4)) (J (m + 19) s), J (m + 21) s)
noncomputable def eatG (m N s : Nat) (q : MI × MI) : MI × MI := eatM m N (s / 4) (s % 4) q.1 q.2
theorem eatG_itr {m N : Nat} (q : MI × MI) : itr (eat1 m N) 0 8 q = itr (eatG m N) 0 32 q := by
  simp only [itr, eat1, eat2, eatG, Nat.zero_add, Nat.reduceAdd, Nat.reduceDiv, Nat.reduceMod, Nat.zero_div, Nat.zero_mod]
/-- the stores up to s have eaten -/
def WI (m N : Nat) (L : List Nat) (S : Nat → Nat) (I0 J0 : MI) (s : Nat) (q : MI × MI) : Prop :=
  (∀ b, b ≠ m + 9 → b ≠ m + 19 → b ≠ m + 20 → b ≠ m + 21 → q.2 b = J0 b) ∧ (∀ f, f ≠ 1203 → q.1 f = I0 f) ∧
  (∀ l, l < N → q.2 (m + 9) l = if S l < s ∧ J0 (m + 11) l = -1 then (esM m L J0 (S l)).1 l else J0 (m + 9) l) ∧ (∀ l, l < N → Nn (q.2 (m + 9) l) 5000) ∧
  (∀ j, j < s → q.2 (m + 19) j = (esM m L J0 j).2.1 ∧ q.2 (m + 20) j = J0 (m + 20) j + (esM m L J0 j).2.2.1 ∧ q.2 (m + 21) j = (esM m L J0 j).2.2.2) ∧
  (∀ j, s ≤ j → q.2 (m + 19) j = J0 (m + 19) j ∧ q.2 (m + 20) j = J0 (m + 20) j ∧ q.2 (m + 21) j = J0 (m + 21) j) ∧
  q.1 1203 m = sm (q.2 (m + 21)) (List.range 32)
theorem el_iff {m N s : Nat} {J : MI} {S : Nat → Nat} (hS : ∀ l, l < N → S l < 32 ∧ J (m + 10) l = nI (S l / 4) ∧ J (m + 7) l = nI (S l % 4)) {l : Nat} (hl : l < N) (hs : s < 32) : elM (J (m + 10)) (J (m + 7)) (J (m + 11)) (s / 4) (s % 4) l = true ↔ (S l = s ∧ J (m + 11) l = -1) := by
  obtain ⟨h1, h2, h3⟩ := hS l hl
  unfold elM
  rw [h2, h3]
  simp only [Bool.and_eq_true, decide_eq_true_eq]
  rw [nI_si (by omega) (by omega), nI_si (by omega) (by omega)]
  constructor
  · rintro ⟨q1, q2, q3⟩; exact ⟨by omega, q3⟩
  · rintro ⟨q1, q2⟩; exact ⟨by omega, by omega, q2⟩
set_option maxHeartbeats 4000000 in
theorem WI.step {m N s : Nat} {L : List Nat} {S : Nat → Nat} {I0 J0 : MI} {q : MI × MI} (h : WI m N L S I0 J0 s q) (hs : s < 32) (hL : L.Perm (List.range N)) (hp : L.Pairwise (before (J0 (m + 8)))) (hS : ∀ l, l < N → S l < 32 ∧ J0 (m + 10) l = nI (S l / 4) ∧ J0 (m + 7) l = nI (S l % 4)) (hr : ∀ k, k < 4 → Nn (J0 (m + 2) k) 500 ∧ 1 ≤ J0 (m + 2) k) (hm : ∀ p, p < 8 → Nn (J0 (m + 1) p) 1000) (ho : ∀ j, j < 32 → Nn (J0 (m + 19) j) 500) : WI m N L S I0 J0 (s + 1) (eatG m N s q) := by
  obtain ⟨h1, h2, h3, h4, h5, h6, h7⟩ := h
  have hsm : 4 * (s / 4) + s % 4 = s := by omega
  have k4 : s % 4 < 4 := by omega
  have p8 : s / 4 < 8 := by omega
  have j19 := (h6 s (Nat.le_refl _)).1
  have j20 := (h6 s (Nat.le_refl _)).2.1
  have j21 := (h6 s (Nat.le_refl _)).2.2
  obtain ⟨n1, n2⟩ := need_ok (hm (s / 4) p8) (ho s hs)
  have e0 : eatG m N s q = eatS m (s / 4) (s % 4) N 7000 (nd0 (J0 (m + 1) (s / 4)) (J0 (m + 19) s)) q.1 (up2 q.2 (m + 19) s (le0 (J0 (m + 1) (s / 4)) (J0 (m + 19) s))) := by
    unfold eatG eatM nd0 le0
    rw [hsm, h1 (m + 1) (by omega) (by omega) (by omega) (by omega), j19]
  generalize hJa : up2 q.2 (m + 19) s (le0 (J0 (m + 1) (s / 4)) (J0 (m + 19) s)) = Ja at e0
  have ga : ∀ b, b ≠ m + 19 → Ja b = q.2 b := fun b hb => by rw [← hJa, up2_ne _ _ _ hb]
  have g0 : ∀ b, b ≠ m + 9 → b ≠ m + 19 → b ≠ m + 20 → b ≠ m + 21 → Ja b = J0 b := fun b b1 b2 b3 b4 => by rw [ga b b2, h1 b b1 b2 b3 b4]
  have ga19 : Ja (m + 19) s = le0 (J0 (m + 1) (s / 4)) (J0 (m + 19) s) := by rw [← hJa, up2s]
  have g11 := g0 (m + 11) (by omega) (by omega) (by omega) (by omega)
  have sp := eatS_sp (m := m) (p := s / 4) (k := s % 4) (N := N) (F10 := J0 (m + 10)) (F7 := J0 (m + 7)) (F11 := J0 (m + 11)) hL hp (hr _ k4).1 (hr _ k4).2 7000 (nd0 (J0 (m + 1) (s / 4)) (J0 (m + 19) s)) q.1 Ja (g0 _ (by omega) (by omega) (by omega) (by omega)) (g0 _ (by omega) (by omega) (by omega) (by omega)) (g0 _ (by omega) (by omega) (by omega) (by omega)) g11 (by rw [g0 _ (by omega) (by omega) (by omega) (by omega)]) (by have := (n2.int (by decide)).2; omega) n2 (fun l hl => by rw [ga _ (by omega)]; exact h4 l hl) _ rfl
  rw [hsm, ga19] at sp
  have elt : ∀ l ∈ L, elM (J0 (m + 10)) (J0 (m + 7)) (J0 (m + 11)) (s / 4) (s % 4) l = elM (J0 (m + 10)) (J0 (m + 7)) (J0 (m + 11)) (s / 4) (s % 4) l ∧ (elM (J0 (m + 10)) (J0 (m + 7)) (J0 (m + 11)) (s / 4) (s % 4) l = true → (l < N ∧ S l = s ∧ J0 (m + 11) l = -1)) := fun l hl => ⟨rfl, fun qe => by
    have hlN := List.mem_range.mp (hL.mem_iff.mp hl)
    exact ⟨hlN, (el_iff hS hlN hs).mp qe⟩⟩
  have cg := fold_cong (el := elM (J0 (m + 10)) (J0 (m + 7)) (J0 (m + 11)) (s / 4) (s % 4)) (el' := elM (J0 (m + 10)) (J0 (m + 7)) (J0 (m + 11)) (s / 4) (s % 4)) (r := J0 (m + 2) (s % 4)) (T := fun l => l < N ∧ S l = s ∧ J0 (m + 11) l = -1) L (Ja (m + 9), le0 (J0 (m + 1) (s / 4)) (J0 (m + 19) s), nd0 (J0 (m + 1) (s / 4)) (J0 (m + 19) s), Ja (m + 21) s) (J0 (m + 9), le0 (J0 (m + 1) (s / 4)) (J0 (m + 19) s), nd0 (J0 (m + 1) (s / 4)) (J0 (m + 19) s), J0 (m + 21) s) elt (by rw [ga (m + 21) (by omega), j21]) (fun l hl => by
    show Ja (m + 9) l = J0 (m + 9) l
    rw [ga (m + 9) (by omega), h3 l hl.1, if_neg (by omega)])
  have eok : EOk N (L.foldl (bst (elM (J0 (m + 10)) (J0 (m + 7)) (J0 (m + 11)) (s / 4) (s % 4)) (J0 (m + 2) (s % 4))) (Ja (m + 9), le0 (J0 (m + 1) (s / 4)) (J0 (m + 19) s), nd0 (J0 (m + 1) (s / 4)) (J0 (m + 19) s), Ja (m + 21) s)) := fold_ok (hr _ k4).1 (hr _ k4).2 L _ (fun l hl => List.mem_range.mp (hL.mem_iff.mp hl)) ⟨fun l hl => by show Nn (Ja (m + 9) l) 5000; rw [ga _ (by omega)]; exact h4 l hl, n1, n2⟩
  have fc := fold_c (el := elM (J0 (m + 10)) (J0 (m + 7)) (J0 (m + 11)) (s / 4) (s % 4)) (r := J0 (m + 2) (s % 4)) L (Ja (m + 9), le0 (J0 (m + 1) (s / 4)) (J0 (m + 19) s), nd0 (J0 (m + 1) (s / 4)) (J0 (m + 19) s), Ja (m + 21) s)
  generalize hE : L.foldl (bst (elM (J0 (m + 10)) (J0 (m + 7)) (J0 (m + 11)) (s / 4) (s % 4)) (J0 (m + 2) (s % 4))) (Ja (m + 9), le0 (J0 (m + 1) (s / 4)) (J0 (m + 19) s), nd0 (J0 (m + 1) (s / 4)) (J0 (m + 19) s), Ja (m + 21) s) = E at sp cg eok fc
  obtain ⟨s1, s2, s3, s4, s5⟩ := sp
  have hEs : E.2 = (esM m L J0 s).2 := cg.1
  rw [e0]
  generalize hQ : eatS m (s / 4) (s % 4) N 7000 (nd0 (J0 (m + 1) (s / 4)) (J0 (m + 19) s)) q.1 Ja = Q at s1 s2 s3 s4 s5
  have qo : ∀ b j, b ≠ m + 9 → j ≠ s → Q.2 b j = Ja b j := fun b j hb hj => by rw [← hQ]; exact eatS_o hb (by omega) _ _ _ _
  refine ⟨fun b b1 b2 b3 b4 => ?_, fun f hf => ?_, fun l hl => ?_, fun l hl => ?_, fun j hj => ?_, fun j hj => ?_, ?_⟩
  · rw [← hQ, eatS_keepJ b1 b2 b3 b4, g0 b b1 b2 b3 b4]
  · rw [← hQ, eatS_keepI hf]; exact h2 f hf
  · rw [s1]
    by_cases c1 : S l = s ∧ J0 (m + 11) l = -1
    · rw [if_pos ⟨by omega, c1.2⟩, c1.1]
      exact cg.2 l ⟨hl, c1⟩
    · have hf : elM (J0 (m + 10)) (J0 (m + 7)) (J0 (m + 11)) (s / 4) (s % 4) l = false := by
        have := mt (el_iff hS hl hs).mp c1
        simpa using this
      rw [fc l (Or.inr hf)]
      show Ja (m + 9) l = _
      rw [ga _ (by omega), h3 l hl]
      refine ite_c ⟨fun c => ⟨by omega, c.2⟩, fun c => ⟨?_, c.2⟩⟩
      by_cases e9 : S l = s
      · exact absurd ⟨e9, c.2⟩ c1
      · omega
  · rw [s1]; exact eok.1 l hl
  · by_cases ej : j = s
    · subst ej
      rw [s2, s3, s4, hEs, ga (m + 20) (by omega), j20]
      exact ⟨rfl, rfl, rfl⟩
    · have := h5 j (by omega)
      rw [qo _ j (by omega) ej, qo _ j (by omega) ej, qo _ j (by omega) ej, ← hJa, up2o ej, up2n (by omega), up2n (by omega)]
      exact this
  · have := h6 j (by omega)
    rw [qo _ j (by omega) (by omega), qo _ j (by omega) (by omega), qo _ j (by omega) (by omega), ← hJa, up2o (by omega), up2n (by omega), up2n (by omega)]
    exact this
  · have e21 : Q.2 (m + 21) = va_up (q.2 (m + 21)) s E.2.2.2 := by
      funext j
      by_cases ej : j = s
      · subst ej; rw [va_up_self, s4]
      · rw [va_up_ne _ _ ej, qo _ j (by omega) ej, ga _ (by omega)]
    rw [e21]
    have su := sm_up (f := q.2 (m + 21)) (a := s) (X := E.2.2.2) (List.range 32) List.nodup_range (List.mem_range.mpr hs)
    rw [ga (m + 21) (by omega), h7] at s5
    rw [← su] at s5
    exact i_cancel s5
