-- LASTS IN THE CLASS: a week of the trial
theorem ewL_keep {x s : Nat} {w : Int32} {J I I' : MI} {a : Nat} (h1 : I' 312 a = I 312 a) (h2 : I' 302 = I 302) (h3 : I' 307 = I 307) : ewL x s w J I' a = ewL x s w J I a := by
  unfold ewL
  rw [h1, h2, h3]
def elT (si la : Nat → Nat) (F : Nat → Int32) (w : Int32) (s l : Nat) : Bool := decide (si (la l) = s) && decide (F (la l) = -1 ∨ F (la l) ≤ w)
theorem is2_k {x f : Nat} {si : Nat → Nat} {w : Int32} {J I : MI} {a : Nat} (h1 : f ≠ 312) (h2 : f ≠ 900) (h3 : f ≠ 901) : is2 x si w J I a f = I f := by
  unfold is2
  split
  · rfl
  · exact ewI_keep h1 h2 h3 I a
theorem loss0 {f : Nat → Int32} {v s : Int32} : lossS f 0 v s = 0 := by
  unfold lossS
  rw [Int32.zero_mul]
  rfl
theorem is2_at {x : Nat} {si : Nat → Nat} {w : Int32} {J I : MI} {a b : Nat} (h : b ≠ a) : is2 x si w J I a 312 b = I 312 b := by
  unfold is2 ewI
  split
  · rfl
  · split
    · rw [up2o h, up2n (by decide), up2n (by decide), up2o h]
    · rw [up2o h]
set_option maxHeartbeats 4000000 in
/-- one lot of the trial, as a store sees it -/
theorem tr_step {x n s l : Nat} {la si : Nat → Nat} {F : Nat → Int32} {r w : Int32} {J I : MI} {e : EE} (hc : Nn (I 312 (la l)) 5000) (h7 : I 307 = F) (hr : I 102 (xKd x (s % 4)) = r) (h1 : si (la l) = s → e.1 l = I 312 (la l) - ewL x s w J I (la l)) (h2 : I 900 (xSo x s + 2) = e.2.1) (h3 : I 901 (xSo x s + 2) = e.2.2.1) : (is2 x si w J I (la l)) 900 (xSo x s + 2) = (bst (elT si la F w s) r e l).2.1 ∧ (is2 x si w J I (la l)) 901 (xSo x s + 2) = (bst (elT si la F w s) r e l).2.2.1 ∧ (si (la l) = s → (is2 x si w J I (la l)) 312 (la l) = (bst (elT si la F w s) r e l).1 l) := by
  unfold is2
  by_cases cz : I 312 (la l) ≤ 0
  · rw [if_pos cz]
    have c0 := nn_zero hc (by decide) cz
    have hb : bst (elT si la F w s) r e l = e := bst_nop (fun q => by
      unfold elT at q
      rw [Bool.and_eq_true, decide_eq_true_eq] at q
      left
      rw [h1 q.1, c0]
      unfold ewL
      rw [c0, loss0]
      decide)
    rw [hb]
    refine ⟨h2, h3, fun q => ?_⟩
    rw [h1 q, c0]
    unfold ewL
    rw [c0, loss0]
    rfl
  · rw [if_neg cz]
    unfold ewI
    by_cases cs : si (la l) = s
    · rw [cs]
      have h1 := h1 cs
      by_cases ct : I 307 (la l) = -1 ∨ I 307 (la l) ≤ w
      · have hel : elT si la F w s l = true := by
          unfold elT
          rw [Bool.and_eq_true, decide_eq_true_eq, decide_eq_true_eq, ← h7]
          exact ⟨cs, ct⟩
        unfold bst
        rw [if_pos hel, if_pos ct, hr, h2, h3]
        unfold ewN
        rw [hr, h3, ← h1]
        refine ⟨?_, ?_, fun _ => ?_⟩
        · rw [up2n (by decide), up2n (by decide), up2s]
        · rw [up2n (by decide), up2s]
        · rw [up2s]
          show _ = va_up e.1 l _ l
          rw [va_up_self]
      · have hel : ¬ elT si la F w s l = true := by
          unfold elT
          rw [Bool.and_eq_true, decide_eq_true_eq, decide_eq_true_eq, ← h7]
          exact fun q => ct q.2
        unfold bst
        rw [if_neg hel, if_neg ct]
        refine ⟨?_, ?_, fun _ => ?_⟩
        · rw [up2n (by decide)]; exact h2
        · rw [up2n (by decide)]; exact h3
        · rw [up2s]; exact h1.symm
    · have hel : ¬ elT si la F w s l = true := by
        unfold elT
        rw [Bool.and_eq_true, decide_eq_true_eq]
        exact fun q => cs q.1
      have hx : xSo x s ≠ xSo x (si (la l)) := fun q => cs (xSo_inj q).symm
      unfold bst
      rw [if_neg hel]
      refine ⟨?_, ?_, fun q => absurd q cs⟩
      · split
        · rw [up2n (by decide), up2n (by decide), up2o (by omega), up2n (by decide)]; exact h2
        · rw [up2n (by decide)]; exact h2
      · split
        · rw [up2n (by decide), up2o (by omega), up2n (by decide), up2n (by decide)]; exact h3
        · rw [up2n (by decide)]; exact h3
theorem tr_fold {x n s : Nat} {la si : Nat → Nat} {F : Nat → Int32} {r w : Int32} {J : MI} (hinj : ∀ i j, i < n → j < n → la i = la j → i = j) : ∀ (L : List Nat) (I : MI) (e : EE), L.Nodup → (∀ l ∈ L, l < n ∧ Nn (I 312 (la l)) 5000) → I 307 = F → I 102 (xKd x (s % 4)) = r → (∀ l ∈ L, si (la l) = s → e.1 l = I 312 (la l) - ewL x s w J I (la l)) → I 900 (xSo x s + 2) = e.2.1 → I 901 (xSo x s + 2) = e.2.2.1 → ((L.map la).foldl (is2 x si w J) I) 900 (xSo x s + 2) = (L.foldl (bst (elT si la F w s) r) e).2.1 ∧ ((L.map la).foldl (is2 x si w J) I) 901 (xSo x s + 2) = (L.foldl (bst (elT si la F w s) r) e).2.2.1 ∧ (∀ l ∈ L, si (la l) = s → ((L.map la).foldl (is2 x si w J) I) 312 (la l) = (L.foldl (bst (elT si la F w s) r) e).1 l) ∧ ∀ b, b ∉ L.map la → ((L.map la).foldl (is2 x si w J) I) 312 b = I 312 b
  | [], _, _, _, _, _, _, _, h2, h3 => ⟨h2, h3, (fun l hl => by cases hl), fun _ _ => rfl⟩
  | a :: L, I, e, hn, hL, h7, hr, h1, h2, h3 => by
    rw [List.nodup_cons] at hn
    obtain ⟨g1, g2, g3⟩ := tr_step (x := x) (n := n) (s := s) (l := a) (la := la) (si := si) (F := F) (r := r) (w := w) (J := J) (I := I) (e := e) (hL a List.mem_cons_self).2 h7 hr (h1 a List.mem_cons_self) h2 h3
    have han := (hL a List.mem_cons_self).1
    have hne : ∀ l ∈ L, la l ≠ la a := fun l hl q => hn.1 (by rw [← hinj l a (hL l (List.mem_cons_of_mem _ hl)).1 han q]; exact hl)
    obtain ⟨f1, f2, f3, f4⟩ := tr_fold (x := x) (s := s) (si := si) (F := F) (r := r) (w := w) (J := J) hinj L (is2 x si w J I (la a)) (bst (elT si la F w s) r e a) hn.2 (fun l hl => ⟨(hL l (List.mem_cons_of_mem _ hl)).1, by rw [is2_at (hne l hl)]; exact (hL l (List.mem_cons_of_mem _ hl)).2⟩) (by rw [is2_k (by decide) (by decide) (by decide)]; exact h7) (by rw [is2_k (by decide) (by decide) (by decide)]; exact hr) (fun l hl q => by
      rw [bst_c (Or.inl (fun q2 => hn.1 (by rw [← q2]; exact hl))), is2_at (hne l hl), ewL_keep (is2_at (hne l hl)) (is2_k (by decide) (by decide) (by decide)) (is2_k (by decide) (by decide) (by decide))]
      exact h1 l (List.mem_cons_of_mem _ hl) q) g1 g2
    rw [List.map_cons, List.foldl_cons, List.foldl_cons]
    refine ⟨f1, f2, fun l hl q => ?_, fun b hb => ?_⟩
    · by_cases el : l = a
      · subst el
        rw [f4 (la l) (fun q2 => by
          obtain ⟨j, hj, ej⟩ := List.mem_map.mp q2
          exact hne j hj ej), fold_c L _ l (Or.inl hn.1)]
        exact g3 q
      · rcases List.mem_cons.mp hl with q2 | q2
        · exact absurd q2 el
        · exact f3 l q2 q
    · rw [f4 b (fun q => hb (List.mem_cons_of_mem _ q)), is2_at (fun q => hb (by rw [q]; exact List.mem_cons_self))]
/-- the tables of the trial alone -/
theorem is_900 {x p b : Nat} {si : Nat → Nat} {w : Int32} {J : MI} (hb : ∀ s, b ≠ xSo x s + 2) : ∀ (ch : List Nat) (I : MI), (isI x p si w ch J I) 900 b = I 900 b := by
  have h2 : ∀ (ch : List Nat) (I : MI), (ch.foldl (is2 x si w J) I) 900 b = I 900 b := by
    intro ch
    induction ch with
    | nil => intro I; rfl
    | cons a ch ih =>
      intro I
      rw [List.foldl_cons, ih]
      unfold is2 ewI
      split
      · rfl
      · split
        · rw [up2n (by decide), up2n (by decide), up2o (hb _), up2n (by decide)]
        · rw [up2n (by decide)]
  intro ch I
  unfold isI
  rw [h2]
  show (is1 x p 3 (is1 x p 2 (is1 x p 1 (is1 x p 0 I)))) 900 b = I 900 b
  unfold is1
  rw [up2n (by decide), up2o (hb _), up2n (by decide), up2o (hb _), up2n (by decide), up2o (hb _), up2n (by decide), up2o (hb _)]
theorem i1_sp {x p : Nat} : ∀ (n i : Nat) (I : MI), i + n ≤ 4 → ∀ k, k < 4 → (itr (is1 x p) i n I) 900 (xSo x (4 * p + k) + 2) = (if i ≤ k ∧ k < i + n then le0 (I 501 (xPl x p)) (I 900 (xSo x (4 * p + k) + 2)) else I 900 (xSo x (4 * p + k) + 2)) ∧ (itr (is1 x p) i n I) 901 (xSo x (4 * p + k) + 2) = (if i ≤ k ∧ k < i + n then nd0 (I 501 (xPl x p)) (I 900 (xSo x (4 * p + k) + 2)) else I 901 (xSo x (4 * p + k) + 2))
  | 0, i, I, _, k, _ => ⟨by rw [if_neg (by omega)]; rfl, by rw [if_neg (by omega)]; rfl⟩
  | n + 1, i, I, hin, k, hk => by
    obtain ⟨h1, h2⟩ := i1_sp (x := x) (p := p) n (i + 1) (is1 x p i I) (by omega) k hk
    rw [itr, h1, h2]
    have e5 : (is1 x p i I) 501 = I 501 := by
      unfold is1
      rw [up2_ne _ _ _ (by decide), up2_ne _ _ _ (by decide)]
    by_cases e : k = i
    · subst e
      rw [if_neg (show ¬ (k + 1 ≤ k ∧ k < k + 1 + n) by omega), if_neg (show ¬ (k + 1 ≤ k ∧ k < k + 1 + n) by omega), if_pos (show k ≤ k ∧ k < k + (n + 1) by omega), if_pos (show k ≤ k ∧ k < k + (n + 1) by omega)]
      unfold is1 le0 nd0
      rw [up2n (by decide), up2s, up2s, jmin_comm]
      exact ⟨rfl, rfl⟩
    · have hne : xSo x (4 * p + k) + 2 ≠ xSo x (4 * p + i) + 2 := fun q => e (by have := xSo_inj (x := x) (a := 4 * p + k) (b := 4 * p + i) (by omega); omega)
      have q9 : (is1 x p i I) 900 (xSo x (4 * p + k) + 2) = I 900 (xSo x (4 * p + k) + 2) := by
        unfold is1
        rw [up2n (by decide), up2o hne]
      have q1 : (is1 x p i I) 901 (xSo x (4 * p + k) + 2) = I 901 (xSo x (4 * p + k) + 2) := by
        unfold is1
        rw [up2o hne, up2n (by decide)]
      rw [q9, q1, e5]
      exact ⟨ite_c ⟨fun c => ⟨by omega, by omega⟩, fun c => ⟨by omega, by omega⟩⟩, ite_c ⟨fun c => ⟨by omega, by omega⟩, fun c => ⟨by omega, by omega⟩⟩⟩
/-- a store's meal of the trial -/
def etX (x p : Nat) (si la : Nat → Nat) (L : List Nat) (w : Int32) (J I : MI) (k : Nat) : EE := L.foldl (bst (elT si la (I 307) w (4 * p + k)) (I 102 (xKd x k))) (fun l => I 312 (la l) - ewL x (4 * p + k) w J I (la l), le0 (I 501 (xPl x p)) (I 900 (xSo x (4 * p + k) + 2)), nd0 (I 501 (xPl x p)) (I 900 (xSo x (4 * p + k) + 2)), 0)
theorem isI_sp {x p n : Nat} {la si : Nat → Nat} {L : List Nat} {w : Int32} {J I : MI} (hinj : ∀ i j, i < n → j < n → la i = la j → i = j) (hnd : L.Nodup) (hL : ∀ l ∈ L, l < n ∧ Nn (I 312 (la l)) 5000) {k : Nat} (hk : k < 4) : (isI x p si w (L.map la) J I) 900 (xSo x (4 * p + k) + 2) = (etX x p si la L w J I k).2.1 ∧ (isI x p si w (L.map la) J I) 901 (xSo x (4 * p + k) + 2) = (etX x p si la L w J I k).2.2.1 ∧ ∀ l ∈ L, si (la l) = 4 * p + k → (isI x p si w (L.map la) J I) 312 (la l) = (etX x p si la L w J I k).1 l := by
  have k1 : ∀ f, f ≠ 900 → f ≠ 901 → (itr (is1 x p) 0 4 I) f = I f := fun f h1 h2 => itr_keep (fun i I => by unfold is1; rw [up2_ne _ _ _ h2, up2_ne _ _ _ h1]) 4 0 I
  obtain ⟨e1, e2⟩ := i1_sp (x := x) (p := p) 4 0 I (by omega) k hk
  rw [if_pos ⟨by omega, by omega⟩] at e1 e2
  obtain ⟨f1, f2, f3, -⟩ := tr_fold (x := x) (n := n) (s := 4 * p + k) (la := la) (si := si) (F := I 307) (r := I 102 (xKd x k)) (w := w) (J := J) hinj L (itr (is1 x p) 0 4 I) (fun l => I 312 (la l) - ewL x (4 * p + k) w J I (la l), le0 (I 501 (xPl x p)) (I 900 (xSo x (4 * p + k) + 2)), nd0 (I 501 (xPl x p)) (I 900 (xSo x (4 * p + k) + 2)), 0) hnd (fun l hl => by rw [k1 312 (by decide) (by decide)]; exact hL l hl) (k1 307 (by decide) (by decide)) (by rw [k1 102 (by decide) (by decide), show (4 * p + k) % 4 = k by omega]) (fun l hl _ => by rw [k1 312 (by decide) (by decide), ewL_keep (by rw [k1 312 (by decide) (by decide)]) (k1 302 (by decide) (by decide)) (k1 307 (by decide) (by decide))]) e1 e2
  exact ⟨f1, f2, f3⟩
/-- a lot that has nothing in the trial keeps it -/
theorem is_312 {x p : Nat} {si : Nat → Nat} {w : Int32} {J : MI} {b : Nat} : ∀ (ch : List Nat) (I : MI), I 312 b ≤ 0 → (isI x p si w ch J I) 312 b = I 312 b := by
  have h2 : ∀ (ch : List Nat) (I : MI), I 312 b ≤ 0 → (ch.foldl (is2 x si w J) I) 312 b = I 312 b := by
    intro ch
    induction ch with
    | nil => intro I _; rfl
    | cons a ch ih =>
      intro I h
      have e : is2 x si w J I a 312 b = I 312 b := by
        by_cases q : b = a
        · subst q
          unfold is2
          rw [if_pos h]
        · exact is2_at q
      rw [List.foldl_cons, ih _ (by rw [e]; exact h), e]
  intro ch I h
  have k1 : (itr (is1 x p) 0 4 I) 312 = I 312 := itr_keep (fun i I => by unfold is1; rw [up2_ne _ _ _ (by decide), up2_ne _ _ _ (by decide)]) 4 0 I
  unfold isI
  rw [h2 ch _ (by rw [k1]; exact h), k1]
