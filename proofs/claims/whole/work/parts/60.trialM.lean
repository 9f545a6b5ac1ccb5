-- LASTS IN THE REFERENCE: a week of the trial
def loT (m : Nat) (kf : Nat → Nat) (w : Int32) (J : MI) (l : Nat) : Int32 := J (m + 23) l * partM (J (m + 3)) (10 * kf l + ageN ((w - J (m + 8) l) / 4)) (bI (¬ brV w (J (m + 24) l) = -1)) / 1000
theorem lcM_at {m l : Nat} {w : Int32} {J : MI} : (∀ j, lcM m l w J (m + 24) j = if j = l then brV w (J (m + 24) l) else J (m + 24) j) ∧ ∀ b, b ≠ m + 24 → lcM m l w J b = J b := by
  unfold lcM brV
  by_cases c : J (m + 24) l ≠ -1 ∧ J (m + 24) l ≤ w
  · rw [if_pos c, if_pos (Or.inr c.2)]
    refine ⟨fun j => ?_, fun b hb => up2_ne _ _ _ hb⟩
    by_cases e : j = l
    · subst e; rw [up2s, if_pos rfl]
    · rw [up2o e, if_neg e]
  · rw [if_neg c]
    refine ⟨fun j => ?_, fun b hb => rfl⟩
    by_cases e : j = l
    · subst e
      rw [if_pos rfl]
      by_cases e1 : J (m + 24) j = -1
      · rw [if_pos (Or.inl e1), e1]
      · rw [if_neg (fun q => by
          rcases q with q | q
          · exact e1 q
          · exact c ⟨e1, q⟩)]
    · rw [if_neg e]
theorem ll_cm {m l : Nat} {kf : Nat → Nat} {w : Int32} {J : MI} : llM m l (kf l) w (lcM m l w J) = loT m kf w J l := by
  obtain ⟨h1, h2⟩ := lcM_at (m := m) (l := l) (w := w) (J := J)
  unfold llM loT
  rw [h2 (m + 23) (by omega), h2 (m + 3) (by omega), h2 (m + 8) (by omega), h1 l, if_pos rfl]
theorem loT_fr {m l : Nat} {kf : Nat → Nat} {w : Int32} {J J' : MI} (e9 : J' (m + 23) l = J (m + 23) l) (e3 : J' (m + 3) = J (m + 3)) (e8 : J' (m + 8) = J (m + 8)) (e11 : J' (m + 24) l = J (m + 24) l) : loT m kf w J' l = loT m kf w J l := by
  unfold loT
  rw [e9, e3, e8, e11]
theorem lt_fold {m p : Nat} {kf : Nat → Nat} {w : Int32} : ∀ (n i : Nat) (J : MI), (∀ l, itr (lw1 m p kf w) i n J (m + 24) l = if (i ≤ l ∧ l < i + n) ∧ J (m + 10) l = nI p then brV w (J (m + 24) l) else J (m + 24) l) ∧ ∀ l, itr (lw1 m p kf w) i n J (m + 23) l = if (i ≤ l ∧ l < i + n) ∧ J (m + 10) l = nI p then J (m + 23) l - loT m kf w J l else J (m + 23) l
  | 0, i, J => ⟨fun l => by rw [if_neg (by omega)]; rfl, fun l => by rw [if_neg (by omega)]; rfl⟩
  | n + 1, i, J => by
    obtain ⟨h2, h3⟩ := lt_fold (m := m) (p := p) (kf := kf) (w := w) n (i + 1) (lw1 m p kf w i J)
    obtain ⟨c1, c2⟩ := lcM_at (m := m) (l := i) (w := w) (J := J)
    have w1 : ∀ b, b ≠ m + 23 → b ≠ m + 24 → lw1 m p kf w i J b = J b := fun b b1 b2 => lw1_keep b1 b2
    have w24 : ∀ l, lw1 m p kf w i J (m + 24) l = if l = i ∧ J (m + 10) i = nI p then brV w (J (m + 24) i) else J (m + 24) l := fun l => by
      unfold lw1
      by_cases q : J (m + 10) i = nI p
      · rw [if_pos q]
        unfold lsM
        rw [up2n (by omega), c1]
        exact ite_c ⟨fun c => ⟨c, q⟩, fun c => c.1⟩
      · rw [if_neg q, if_neg (fun c => q c.2)]
    have w23 : ∀ l, lw1 m p kf w i J (m + 23) l = if l = i ∧ J (m + 10) i = nI p then J (m + 23) i - loT m kf w J i else J (m + 23) l := fun l => by
      unfold lw1
      by_cases q : J (m + 10) i = nI p
      · rw [if_pos q]
        unfold lsM
        rw [ll_cm, c2 (m + 23) (by omega)]
        by_cases e : l = i
        · subst e; rw [up2s, if_pos ⟨rfl, q⟩]
        · rw [up2o e, if_neg (fun c => e c.1), c2 (m + 23) (by omega)]
      · rw [if_neg q, if_neg (fun c => q c.2)]
    refine ⟨fun l => ?_, fun l => ?_⟩
    · rw [itr, h2 l, w1 (m + 10) (by omega) (by omega), w24]
      by_cases e : l = i
      · subst e
        rw [if_neg (by omega)]
        exact ite_c ⟨fun c => ⟨⟨by omega, by omega⟩, c.2⟩, fun c => ⟨rfl, c.2⟩⟩
      · rw [if_neg (show ¬ (l = i ∧ J (m + 10) i = nI p) from fun c => e c.1)]
        exact ite_c ⟨fun c => ⟨⟨by omega, by omega⟩, c.2⟩, fun c => ⟨⟨by omega, by omega⟩, c.2⟩⟩
    · rw [itr, h3 l, w1 (m + 10) (by omega) (by omega), w23]
      by_cases e : l = i
      · subst e
        rw [if_neg (by omega)]
        exact ite_c ⟨fun c => ⟨⟨by omega, by omega⟩, c.2⟩, fun c => ⟨rfl, c.2⟩⟩
      · rw [if_neg (show ¬ (l = i ∧ J (m + 10) i = nI p) from fun c => e c.1), loT_fr (by rw [w23, if_neg (show ¬ (l = i ∧ J (m + 10) i = nI p) from fun c => e c.1)]) (w1 _ (by omega) (by omega)) (w1 _ (by omega) (by omega)) (by rw [w24, if_neg (show ¬ (l = i ∧ J (m + 10) i = nI p) from fun c => e c.1)])]
        exact ite_c ⟨fun c => ⟨⟨by omega, by omega⟩, c.2⟩, fun c => ⟨⟨by omega, by omega⟩, c.2⟩⟩
set_option maxHeartbeats 4000000 in
theorem leS_sp {m p k N : Nat} {L : List Nat} {F8 F10 F7 F11 : Nat → Int32} {r : Int32} (hL : L.Perm (List.range N)) (hs : L.Pairwise (before F8)) (hr : Nn r 500) (hr1 : 1 ≤ r) : ∀ (f : Nat) (nd op : Int32) (J : MI), J (m + 8) = F8 → J (m + 10) = F10 → J (m + 7) = F7 → J (m + 24) = F11 → J (m + 2) k = r → nd.toInt ≤ (f : Int) → Nn nd 7000 → (∀ l, l < N → Nn (J (m + 23) l) 5000) → ∀ e : EE, e = L.foldl (bst (elM F10 F7 F11 p k) r) (J (m + 23), J (m + 25) k, nd, op) → ((leS m p k N f nd J).1 = true ↔ e.2.2.1 ≤ 0) ∧ ((leS m p k N f nd J).1 = true → (leS m p k N f nd J).2 (m + 23) = e.1 ∧ (leS m p k N f nd J).2 (m + 25) k = e.2.1)
  | 0, nd, op, J, _, _, _, _, _, hf, hn, _, e, he => by
    have hz : nd ≤ 0 := by rw [i_le]; exact hf
    rw [fold_nop L (fun _ _ _ => Or.inr hz)] at he
    subst he
    exact ⟨⟨fun _ => hz, fun _ => rfl⟩, fun _ => ⟨rfl, rfl⟩⟩
  | f + 1, nd, op, J, e8, e10, e7, e11, er, hf, hn, hc, e, he => by
    rw [leS]
    by_cases hz : nd ≤ 0
    · rw [if_pos hz]
      rw [fold_nop L (fun _ _ _ => Or.inr hz)] at he
      subst he
      exact ⟨⟨fun _ => hz, fun _ => rfl⟩, fun _ => ⟨rfl, rfl⟩⟩
    · rw [if_neg hz]
      have hn0 := pos_of hz
      have ho : oldR J m (nI p) (nI k) (J (m + 23)) (J (m + 24)) N = L.find? (fun j => elM F10 F7 F11 p k j && decide (0 < J (m + 23) j)) := by
        rw [old_find hL (by rw [e8]; exact hs), e10, e7, e11]
      rw [ho]
      cases hq : L.find? (fun j => elM F10 F7 F11 p k j && decide (0 < J (m + 23) j)) with
      | none =>
        rw [List.find?_eq_none] at hq
        rw [fold_nop L (fun l hl q => Or.inl (by
          have := hq l hl
          rw [q, Bool.true_and, decide_eq_true_eq] at this
          show J (m + 23) l ≤ 0
          rw [i_lt] at this
          rw [i_le]
          omega))] at he
        subst he
        exact ⟨⟨(fun q => by cases q), fun q => absurd q hz⟩, (fun q => by cases q)⟩
      | some l =>
        have hlm : l ∈ L := List.mem_of_find?_eq_some hq
        have hlN : l < N := List.mem_range.mp (hL.mem_iff.mp hlm)
        have hc0 : 0 < J (m + 23) l := by
          have := List.find?_some hq
          rw [Bool.and_eq_true, decide_eq_true_eq] at this
          exact this.2
        rw [fold_1 hn hn0 hr hr1 (hc l hlN) hc0 L (hL.nodup_iff.mpr List.nodup_range) hq] at he
        obtain ⟨n1, n2⟩ := nd_step hn hn0 hr hr1
        rw [er]
        dsimp only
        generalize hJ1 : up2 (up2 J (m + 23) l (J (m + 23) l - 1)) (m + 25) k (r - jmin nd r) = J1
        have g : ∀ b, b ≠ m + 23 → b ≠ m + 25 → J1 b = J b := fun b h1 h3 => by rw [← hJ1, up2_ne _ _ _ h3, up2_ne _ _ _ h1]
        have g9 : J1 (m + 23) = va_up (J (m + 23)) l (J (m + 23) l - 1) := by rw [← hJ1, up2_ne _ _ _ (by omega), up2_self]
        have g19 : J1 (m + 25) k = r - jmin nd r := by rw [← hJ1, up2s]
        exact leS_sp hL hs hr hr1 f (nd - jmin nd r) (op + 1) J1 ((g _ (by omega) (by omega)).trans e8) ((g _ (by omega) (by omega)).trans e10) ((g _ (by omega) (by omega)).trans e7) ((g _ (by omega) (by omega)).trans e11) (by rw [g _ (by omega) (by omega)]; exact er) (by omega) n1 (fun j hj => by
          rw [g9]
          by_cases ej : j = l
          · subst ej; rw [va_up_self]; exact cask_1 (hc j hj) hc0
          · rw [va_up_ne _ _ ej]; exact hc j hj) e (by rw [g9, g19]; exact he)
theorem leS_o {m p k N j : Nat} (hj : j ≠ k) : ∀ (f : Nat) (nd : Int32) (J : MI), (leS m p k N f nd J).2 (m + 25) j = J (m + 25) j
  | 0, _, _ => rfl
  | f + 1, nd, J => by
    rw [leS]
    split
    · rfl
    · cases oldR J m (nI p) (nI k) (J (m + 23)) (J (m + 24)) N with
      | none => rfl
      | some l =>
        show (leS m p k N f _ _).2 (m + 25) j = J (m + 25) j
        rw [leS_o hj f, up2o hj, up2n (by omega)]
/-- a store's meal of the trial -/
def etM (m p : Nat) (L : List Nat) (J : MI) (k : Nat) : EE := L.foldl (bst (elM (J (m + 10)) (J (m + 7)) (J (m + 24)) p k) (J (m + 2) k)) (J (m + 23), le0 (J (m + 1) p) (J (m + 25) k), nd0 (J (m + 1) p) (J (m + 25) k), 0)
def TI (m p N : Nat) (L : List Nat) (S : Nat → Nat) (J0 : MI) (k : Nat) (J : MI) : Prop :=
  (∀ b, b ≠ m + 23 → b ≠ m + 25 → J b = J0 b) ∧
  (∀ l, l < N → J (m + 23) l = if (S l / 4 = p ∧ S l % 4 < k) ∧ J0 (m + 24) l = -1 then (etM m p L J0 (S l % 4)).1 l else J0 (m + 23) l) ∧ (∀ l, l < N → Nn (J (m + 23) l) 5000) ∧
  (∀ j, j < k → J (m + 25) j = (etM m p L J0 j).2.1) ∧ ∀ j, k ≤ j → J (m + 25) j = J0 (m + 25) j
theorem elp_iff {m N p k : Nat} {J : MI} {S : Nat → Nat} {F : Nat → Int32} (hS : ∀ l, l < N → S l < 32 ∧ J (m + 10) l = nI (S l / 4) ∧ J (m + 7) l = nI (S l % 4)) {l : Nat} (hl : l < N) (hp : p < 8) (hk : k < 4) : elM (J (m + 10)) (J (m + 7)) F p k l = true ↔ ((S l / 4 = p ∧ S l % 4 = k) ∧ F l = -1) := by
  obtain ⟨h1, h2, h3⟩ := hS l hl
  unfold elM
  rw [h2, h3]
  simp only [Bool.and_eq_true, decide_eq_true_eq]
  rw [nI_si (by omega) (by omega), nI_si (by omega) (by omega)]
  constructor
  · rintro ⟨q1, q2, q3⟩; exact ⟨⟨q1, q2⟩, q3⟩
  · rintro ⟨⟨q1, q2⟩, q3⟩; exact ⟨q1, q2, q3⟩
set_option maxHeartbeats 4000000 in
theorem TI.step {m p N k : Nat} {L : List Nat} {S : Nat → Nat} {J0 J : MI} (h : TI m p N L S J0 k J) (hk : k < 4) (hp8 : p < 8) (hL : L.Perm (List.range N)) (hp : L.Pairwise (before (J0 (m + 8)))) (hS : ∀ l, l < N → S l < 32 ∧ J0 (m + 10) l = nI (S l / 4) ∧ J0 (m + 7) l = nI (S l % 4)) (hr : Nn (J0 (m + 2) k) 500 ∧ 1 ≤ J0 (m + 2) k) (hm : Nn (J0 (m + 1) p) 1000) (ho : Nn (J0 (m + 25) k) 500) : ((leK m p N k J).1 = true ↔ (etM m p L J0 k).2.2.1 ≤ 0) ∧ ((leK m p N k J).1 = true → TI m p N L S J0 (k + 1) (leK m p N k J).2) := by
  obtain ⟨h1, h3, h4, h5, h6⟩ := h
  have j25 := h6 k (Nat.le_refl _)
  obtain ⟨n1, n2⟩ := need_ok hm ho
  have e0 : leK m p N k J = leS m p k N 7000 (nd0 (J0 (m + 1) p) (J0 (m + 25) k)) (up2 J (m + 25) k (le0 (J0 (m + 1) p) (J0 (m + 25) k))) := by
    unfold leK nd0 le0
    rw [h1 (m + 1) (by omega) (by omega), j25]
  generalize hJa : up2 J (m + 25) k (le0 (J0 (m + 1) p) (J0 (m + 25) k)) = Ja at e0
  have ga : ∀ b, b ≠ m + 25 → Ja b = J b := fun b hb => by rw [← hJa, up2_ne _ _ _ hb]
  have g0 : ∀ b, b ≠ m + 23 → b ≠ m + 25 → Ja b = J0 b := fun b b1 b2 => by rw [ga b b2, h1 b b1 b2]
  have ga25 : Ja (m + 25) k = le0 (J0 (m + 1) p) (J0 (m + 25) k) := by rw [← hJa, up2s]
  have sp := leS_sp (m := m) (p := p) (k := k) (N := N) (F10 := J0 (m + 10)) (F7 := J0 (m + 7)) (F11 := J0 (m + 24)) hL hp hr.1 hr.2 7000 (nd0 (J0 (m + 1) p) (J0 (m + 25) k)) 0 Ja (g0 _ (by omega) (by omega)) (g0 _ (by omega) (by omega)) (g0 _ (by omega) (by omega)) (g0 _ (by omega) (by omega)) (by rw [g0 _ (by omega) (by omega)]) (by have := (n2.int (by decide)).2; omega) n2 (fun l hl => by rw [ga _ (by omega)]; exact h4 l hl) _ rfl
  rw [ga25] at sp
  have elt : ∀ l ∈ L, elM (J0 (m + 10)) (J0 (m + 7)) (J0 (m + 24)) p k l = elM (J0 (m + 10)) (J0 (m + 7)) (J0 (m + 24)) p k l ∧ (elM (J0 (m + 10)) (J0 (m + 7)) (J0 (m + 24)) p k l = true → (l < N ∧ (S l / 4 = p ∧ S l % 4 = k) ∧ J0 (m + 24) l = -1)) := fun l hl => ⟨rfl, fun qe => by
    have hlN := List.mem_range.mp (hL.mem_iff.mp hl)
    exact ⟨hlN, (elp_iff hS hlN hp8 hk).mp qe⟩⟩
  have cg := fold_cong (el := elM (J0 (m + 10)) (J0 (m + 7)) (J0 (m + 24)) p k) (el' := elM (J0 (m + 10)) (J0 (m + 7)) (J0 (m + 24)) p k) (r := J0 (m + 2) k) (T := fun l => l < N ∧ (S l / 4 = p ∧ S l % 4 = k) ∧ J0 (m + 24) l = -1) L (Ja (m + 23), le0 (J0 (m + 1) p) (J0 (m + 25) k), nd0 (J0 (m + 1) p) (J0 (m + 25) k), 0) (J0 (m + 23), le0 (J0 (m + 1) p) (J0 (m + 25) k), nd0 (J0 (m + 1) p) (J0 (m + 25) k), 0) elt rfl (fun l hl => by
    show Ja (m + 23) l = J0 (m + 23) l
    rw [ga (m + 23) (by omega), h3 l hl.1, if_neg (by omega)])
  have eok : EOk N (L.foldl (bst (elM (J0 (m + 10)) (J0 (m + 7)) (J0 (m + 24)) p k) (J0 (m + 2) k)) (Ja (m + 23), le0 (J0 (m + 1) p) (J0 (m + 25) k), nd0 (J0 (m + 1) p) (J0 (m + 25) k), 0)) := fold_ok hr.1 hr.2 L _ (fun l hl => List.mem_range.mp (hL.mem_iff.mp hl)) ⟨fun l hl => by show Nn (Ja (m + 23) l) 5000; rw [ga _ (by omega)]; exact h4 l hl, n1, n2⟩
  have fc := fold_c (el := elM (J0 (m + 10)) (J0 (m + 7)) (J0 (m + 24)) p k) (r := J0 (m + 2) k) L (Ja (m + 23), le0 (J0 (m + 1) p) (J0 (m + 25) k), nd0 (J0 (m + 1) p) (J0 (m + 25) k), 0)
  generalize hE : L.foldl (bst (elM (J0 (m + 10)) (J0 (m + 7)) (J0 (m + 24)) p k) (J0 (m + 2) k)) (Ja (m + 23), le0 (J0 (m + 1) p) (J0 (m + 25) k), nd0 (J0 (m + 1) p) (J0 (m + 25) k), 0) = E at sp cg eok fc
  have hEs : E.2 = (etM m p L J0 k).2 := cg.1
  rw [e0]
  refine ⟨by rw [sp.1, hEs], fun ht => ?_⟩
  obtain ⟨s1, s2⟩ := sp.2 ht
  generalize hQ : leS m p k N 7000 (nd0 (J0 (m + 1) p) (J0 (m + 25) k)) Ja = Q at s1 s2
  refine ⟨fun b b1 b2 => ?_, fun l hl => ?_, fun l hl => ?_, fun j hj => ?_, fun j hj => ?_⟩
  · rw [← hQ, leS_keep b1 b2, g0 b b1 b2]
  · rw [s1]
    by_cases c1 : (S l / 4 = p ∧ S l % 4 = k) ∧ J0 (m + 24) l = -1
    · rw [if_pos ⟨by omega, c1.2⟩, c1.1.2]
      exact cg.2 l ⟨hl, c1⟩
    · have hf : elM (J0 (m + 10)) (J0 (m + 7)) (J0 (m + 24)) p k l = false := by
        have := mt (elp_iff (F := J0 (m + 24)) hS hl hp8 hk).mp c1
        simpa using this
      rw [fc l (Or.inr hf)]
      show Ja (m + 23) l = _
      rw [ga _ (by omega), h3 l hl]
      refine ite_c ⟨fun c => ⟨by omega, c.2⟩, fun c => ⟨?_, c.2⟩⟩
      by_cases e9 : S l % 4 = k
      · exact absurd ⟨⟨c.1.1, e9⟩, c.2⟩ c1
      · omega
  · rw [s1]; exact eok.1 l hl
  · by_cases ej : j = k
    · subst ej
      rw [s2, hEs]
    · rw [← hQ, leS_o ej, ← hJa, up2o ej]
      exact h5 j (by omega)
  · rw [← hQ, leS_o (by omega), ← hJa, up2o (by omega)]
    exact h6 j (by omega)
theorem leA_sp {m p N : Nat} {L : List Nat} {S : Nat → Nat} {J0 : MI} (hp8 : p < 8) (hL : L.Perm (List.range N)) (hp : L.Pairwise (before (J0 (m + 8)))) (hS : ∀ l, l < N → S l < 32 ∧ J0 (m + 10) l = nI (S l / 4) ∧ J0 (m + 7) l = nI (S l % 4)) (hr : ∀ k, k < 4 → Nn (J0 (m + 2) k) 500 ∧ 1 ≤ J0 (m + 2) k) (hm : Nn (J0 (m + 1) p) 1000) (ho : ∀ k, k < 4 → Nn (J0 (m + 25) k) 500) : ∀ (n k : Nat) (J : MI), k + n = 4 → TI m p N L S J0 k J → ((leA m p N n k J).1 = true ↔ ∀ j, k ≤ j → j < 4 → (etM m p L J0 j).2.2.1 ≤ 0) ∧ ((leA m p N n k J).1 = true → TI m p N L S J0 4 (leA m p N n k J).2)
  | 0, k, J, hk, h => by
    have e : k = 4 := by omega
    subst e
    exact ⟨⟨fun _ j h1 h2 => by omega, fun _ => rfl⟩, fun _ => h⟩
  | n + 1, k, J, hk, h => by
    obtain ⟨a1, a2⟩ := h.step (by omega) hp8 hL hp hS (hr k (by omega)) hm (ho k (by omega))
    cases hb : (leK m p N k J).1 with
    | true =>
      rw [leA_t hb]
      obtain ⟨b1, b2⟩ := leA_sp hp8 hL hp hS hr hm ho n (k + 1) (leK m p N k J).2 (by omega) (a2 hb)
      refine ⟨⟨fun q j h1 h2 => ?_, fun q => b1.mpr (fun j h1 h2 => q j (by omega) h2)⟩, b2⟩
      by_cases e : j = k
      · subst e; exact a1.mp hb
      · exact b1.mp q j (by omega) h2
    | false =>
      rw [leA_f hb]
      refine ⟨⟨(fun q => by cases q), fun q => ?_⟩, (fun q => by cases q)⟩
      have := a1.mpr (q k (Nat.le_refl _) (by omega))
      rw [hb] at this
      cases this
