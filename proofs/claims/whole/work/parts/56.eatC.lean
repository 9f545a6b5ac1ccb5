-- EATING IN THE CLASS: all stores in one pass over the chain
theorem e1_sp {x : Nat} : ∀ (n i : Nat) (I : MI), i + n ≤ 32 → ∀ s, s < 32 → (itr (stE1 x) i n I) 900 (xSo x s + 1) = (if i ≤ s ∧ s < i + n then le0 (I 501 (xPl x (s / 4))) (I 900 (xSo x s + 1)) else I 900 (xSo x s + 1)) ∧ (i ≤ s ∧ s < i + n → (itr (stE1 x) i n I) 901 (xSo x s + 1) = nd0 (I 501 (xPl x (s / 4))) (I 900 (xSo x s + 1)))
  | 0, i, I, _, s, _ => ⟨by rw [if_neg (by omega)]; rfl, fun h => by omega⟩
  | n + 1, i, I, hin, s, hs => by
    obtain ⟨h1, h2⟩ := e1_sp (x := x) n (i + 1) (stE1 x i I) (by omega) s hs
    rw [itr]
    have e5 : (stE1 x i I) 501 = I 501 := stE1_keep (by decide) (by decide) i I
    by_cases e : s = i
    · subst e
      rw [if_pos ⟨by omega, by omega⟩]
      rw [if_neg (by omega)] at h1
      have q9 : (stE1 x s I) 900 (xSo x s + 1) = le0 (I 501 (xPl x (s / 4))) (I 900 (xSo x s + 1)) := by
        unfold stE1 le0
        rw [up2n (by decide), up2s, jmin_comm]
      refine ⟨h1.trans q9, fun _ => ?_⟩
      have k9 : ∀ (n i : Nat) (I : MI), s < i → (itr (stE1 x) i n I) 901 (xSo x s + 1) = I 901 (xSo x s + 1) := by
        intro n
        induction n with
        | zero => intro i I _; rfl
        | succ n ih =>
          intro i I hi
          rw [itr, ih (i + 1) _ (by omega)]
          unfold stE1
          rw [up2o (fun q => by have := xSo_inj (x := x) (show xSo x s = xSo x i by omega); omega), up2n (by decide)]
      rw [k9 n (s + 1) _ (by omega)]
      unfold stE1 nd0
      rw [up2s, jmin_comm]
    · have q9 : (stE1 x i I) 900 (xSo x s + 1) = I 900 (xSo x s + 1) := by
        unfold stE1
        rw [up2n (by decide), up2o (fun q => e (xSo_inj (x := x) (by omega)))]
      rw [q9, e5] at h1 h2
      refine ⟨h1.trans (ite_c ⟨fun c => ⟨by omega, by omega⟩, fun c => ⟨by omega, by omega⟩⟩), fun c => h2 ⟨by omega, by omega⟩⟩
def elX (si la : Nat → Nat) (F : Nat → Int32) (s l : Nat) : Bool := decide (si (la l) = s) && decide (F (la l) = -1)
def PR (x n s : Nat) (la : Nat → Nat) (el : Nat → Bool) (I : MI) (e : EE) : Prop := (∀ l, l < n → el l = true → I 306 (la l) = e.1 l) ∧ I 900 (xSo x s + 1) = e.2.1 ∧ I 901 (xSo x s + 1) = e.2.2.1 ∧ I 705 (xSo x s) = e.2.2.2
theorem PR.step {x n s l : Nat} {la si : Nat → Nat} {F : Nat → Int32} {r : Int32} {I : MI} {e : EE} (h : PR x n s la (elX si la F s) I e) (hl : l < n) (hinj : ∀ i j, i < n → j < n → la i = la j → i = j) (h7 : I 307 = F) (hr : I 102 (xKd x (s % 4)) = r) : PR x n s la (elX si la F s) (stE2 x si I (la l)) (bst (elX si la F s) r e l) := by
  obtain ⟨h1, h2, h3, h4⟩ := h
  unfold stE2
  by_cases c : I 307 (la l) = -1
  · rw [if_pos c]
    by_cases cs : si (la l) = s
    · have hel : elX si la F s l = true := by
        unfold elX
        rw [Bool.and_eq_true, decide_eq_true_eq, decide_eq_true_eq]
        exact ⟨cs, by rw [← h7]; exact c⟩
      have hc := h1 l hl hel
      unfold bst nE2
      rw [if_pos hel, cs, hr, h2, h3, hc, h4]
      refine ⟨fun j hj hje => ?_, ?_, ?_, ?_⟩
      · show _ = va_up e.1 l _ j
        rw [up2n (by decide), up2n (by decide)]
        by_cases ej : j = l
        · subst ej
          rw [up2s, va_up_self]
        · rw [up2o (fun q => ej (hinj j l hj hl q)), up2n (by decide), up2n (by decide), va_up_ne _ _ ej]
          exact h1 j hj hje
      · show _ = opL e.2.1 e.2.2.1 (e.1 l) r
        rw [up2n (by decide), up2n (by decide), up2n (by decide), up2n (by decide), up2s]
      · show _ = opW e.2.2.1 (e.1 l) r
        rw [up2n (by decide), up2n (by decide), up2n (by decide), up2s]
      · show _ = e.2.2.2 + _
        rw [up2n (by decide), up2s]
    · have hel : ¬ elX si la F s l = true := by
        unfold elX
        rw [Bool.and_eq_true, decide_eq_true_eq]
        exact fun q => cs q.1
      have hx : xSo x s ≠ xSo x (si (la l)) := fun q => cs (xSo_inj q).symm
      unfold bst
      rw [if_neg hel]
      refine ⟨fun j hj hje => ?_, ?_, ?_, ?_⟩
      · have ej : j ≠ l := fun q => hel (by rw [← q]; exact hje)
        rw [up2n (by decide), up2n (by decide), up2o (fun q => ej (hinj j l hj hl q)), up2n (by decide), up2n (by decide)]
        exact h1 j hj hje
      · rw [up2n (by decide), up2n (by decide), up2n (by decide), up2n (by decide), up2o (by omega)]; exact h2
      · rw [up2n (by decide), up2n (by decide), up2n (by decide), up2o (by omega), up2n (by decide)]; exact h3
      · rw [up2n (by decide), up2o hx, up2n (by decide), up2n (by decide), up2n (by decide)]; exact h4
  · rw [if_neg c]
    have hel : ¬ elX si la F s l = true := by
      unfold elX
      rw [Bool.and_eq_true, decide_eq_true_eq, decide_eq_true_eq]
      exact fun q => c (by rw [h7]; exact q.2)
    unfold bst
    rw [if_neg hel]
    exact ⟨h1, h2, h3, h4⟩
theorem PR.fold {x n s : Nat} {la si : Nat → Nat} {F : Nat → Int32} {r : Int32} (hinj : ∀ i j, i < n → j < n → la i = la j → i = j) : ∀ (L : List Nat) (I : MI) (e : EE), (∀ l ∈ L, l < n) → I 307 = F → I 102 (xKd x (s % 4)) = r → PR x n s la (elX si la F s) I e → PR x n s la (elX si la F s) ((L.map la).foldl (stE2 x si) I) (L.foldl (bst (elX si la F s) r) e)
  | [], _, _, _, _, _, h => h
  | a :: L, I, e, hL, h7, hr, h => by
    rw [List.map_cons, List.foldl_cons, List.foldl_cons]
    refine PR.fold hinj L _ _ (fun l hl => hL l (List.mem_cons_of_mem _ hl)) ?_ ?_ (h.step (hL a List.mem_cons_self) hinj h7 hr)
    · rw [stE2_keep (by decide) (by decide) (by decide) (by decide) (by decide)]; exact h7
    · rw [stE2_keep (by decide) (by decide) (by decide) (by decide) (by decide)]; exact hr
theorem sea_keep {x n : Nat} {la si : Nat → Nat} (hinj : ∀ i j, i < n → j < n → la i = la j → i = j) {l : Nat} (hl : l < n) : ∀ (L : List Nat) (I : MI), (∀ j ∈ L, j < n) → ¬ I 307 (la l) = -1 → ((L.map la).foldl (stE2 x si) I) 306 (la l) = I 306 (la l)
  | [], _, _, _ => rfl
  | a :: L, I, hL, h7 => by
    rw [List.map_cons, List.foldl_cons, sea_keep hinj hl L _ (fun j hj => hL j (List.mem_cons_of_mem _ hj)) (by rw [stE2_keep (by decide) (by decide) (by decide) (by decide) (by decide)]; exact h7)]
    unfold stE2
    split
    · rename_i hc
      rw [up2n (by decide), up2n (by decide), up2o (fun q => h7 (by rw [q]; exact hc)), up2n (by decide), up2n (by decide)]
    · rfl
def SM (x : Nat) (I : MI) : Prop := I 1114 x = sm (fun s => I 705 (xSo x s)) (List.range 32)
theorem SM.step {x : Nat} {si : Nat → Nat} {I : MI} {a : Nat} (h : SM x I) (ha : si a < 32) : SM x (stE2 x si I a) := by
  unfold stE2
  split
  · unfold SM
    rw [up2s]
    have e : (fun s => (up2 (up2 (up2 (up2 (up2 I 900 (xSo x (si a) + 1) (opL (I 900 (xSo x (si a) + 1)) (I 901 (xSo x (si a) + 1)) (I 306 a) (I 102 (xKd x (si a % 4))))) 901 (xSo x (si a) + 1) (opW (I 901 (xSo x (si a) + 1)) (I 306 a) (I 102 (xKd x (si a % 4))))) 306 a (I 306 a - nE2 x si I a)) 705 (xSo x (si a)) (I 705 (xSo x (si a)) + nE2 x si I a)) 1114 x (I 1114 x + nE2 x si I a)) 705 (xSo x s)) = va_up (fun s => I 705 (xSo x s)) (si a) (I 705 (xSo x (si a)) + nE2 x si I a) := by
      funext s
      rw [up2n (by decide)]
      by_cases c : s = si a
      · subst c; rw [up2s, va_up_self]
      · rw [up2o (fun q => c (xSo_inj q)), va_up_ne _ _ c, up2n (by decide), up2n (by decide), up2n (by decide)]
    rw [e]
    have su : sm (va_up (fun s => I 705 (xSo x s)) (si a) (I 705 (xSo x (si a)) + nE2 x si I a)) (List.range 32) + I 705 (xSo x (si a)) = sm (fun s => I 705 (xSo x s)) (List.range 32) + (I 705 (xSo x (si a)) + nE2 x si I a) := sm_up (f := fun s => I 705 (xSo x s)) (List.range 32) List.nodup_range (List.mem_range.mpr ha)
    unfold SM at h
    rw [← h] at su
    clear e h
    generalize sm (va_up (fun s => I 705 (xSo x s)) (si a) (I 705 (xSo x (si a)) + nE2 x si I a)) (List.range 32) = Y at su ⊢
    generalize nE2 x si I a = y at su ⊢
    generalize I 705 (xSo x (si a)) = v at su
    generalize I 1114 x = u at su ⊢
    rw [Int32.add_comm v y, ← Int32.add_assoc] at su
    exact (i_cancel su).symm
  · exact h
theorem SM.fold {x : Nat} {si : Nat → Nat} : ∀ (ch : List Nat) (I : MI), (∀ a ∈ ch, si a < 32) → SM x I → SM x (ch.foldl (stE2 x si) I)
  | [], _, _, h => h
  | a :: ch, I, ha, h => SM.fold ch _ (fun b hb => ha b (List.mem_cons_of_mem _ hb)) (h.step (ha a List.mem_cons_self))
theorem e3_sp {x : Nat} : ∀ (n i : Nat) (I : MI), i + n ≤ 32 → ∀ s, s < 32 → (itr (stE3 x) i n I) 706 (xSo x s) = if i ≤ s ∧ s < i + n then I 706 (xSo x s) + I 901 (xSo x s + 1) else I 706 (xSo x s)
  | 0, i, I, _, s, _ => by rw [if_neg (by omega)]; rfl
  | n + 1, i, I, hin, s, hs => by
    rw [itr, e3_sp n (i + 1) _ (by omega) s hs]
    have e9 : (stE3 x i I) 901 = I 901 := stE3_keep (by decide) i I
    by_cases e : s = i
    · subst e
      rw [if_neg (by omega), if_pos ⟨by omega, by omega⟩]
      unfold stE3
      rw [up2s]
    · have e6 : (stE3 x i I) 706 (xSo x s) = I 706 (xSo x s) := by
        unfold stE3
        rw [up2o (fun q => e (xSo_inj q))]
      rw [e9, e6]
      exact ite_c ⟨fun c => ⟨by omega, by omega⟩, fun c => ⟨by omega, by omega⟩⟩
/-- a store's eating, in the class's words -/
def esX (x : Nat) (si la : Nat → Nat) (L : List Nat) (I : MI) (s : Nat) : EE := L.foldl (bst (elX si la (I 307) s) (I 102 (xKd x (s % 4)))) (fun l => I 306 (la l), le0 (I 501 (xPl x (s / 4))) (I 900 (xSo x s + 1)), nd0 (I 501 (xPl x (s / 4))) (I 900 (xSo x s + 1)), I 705 (xSo x s))
theorem eatX_sp {x n : Nat} {la si : Nat → Nat} {L : List Nat} {I : MI} (hinj : ∀ i j, i < n → j < n → la i = la j → i = j) (hL : ∀ l ∈ L, l < n) (hsi : ∀ l, l < n → si (la l) < 32) (hSM : SM x I) :
    (∀ s, s < 32 → (eatX x si (L.map la) I) 900 (xSo x s + 1) = (esX x si la L I s).2.1 ∧ (eatX x si (L.map la) I) 706 (xSo x s) = I 706 (xSo x s) + (esX x si la L I s).2.2.1 ∧ (eatX x si (L.map la) I) 705 (xSo x s) = (esX x si la L I s).2.2.2) ∧
    (∀ l, l < n → (eatX x si (L.map la) I) 306 (la l) = if I 307 (la l) = -1 then (esX x si la L I (si (la l))).1 l else I 306 (la l)) ∧ SM x (eatX x si (L.map la) I) := by
  have k1 : ∀ f, f ≠ 900 → f ≠ 901 → (itr (stE1 x) 0 32 I) f = I f := fun f h1 h2 => itr_keep (fun i I => stE1_keep h1 h2 i I) 32 0 I
  have k3 : ∀ f (Z : MI), f ≠ 706 → (itr (stE3 x) 0 32 Z) f = Z f := fun f Z h => itr_keep (fun i I => stE3_keep h i I) 32 0 Z
  have pr : ∀ s, s < 32 → PR x n s la (elX si la (I 307) s) ((L.map la).foldl (stE2 x si) (itr (stE1 x) 0 32 I)) (esX x si la L I s) := fun s hs => by
    have e1 := e1_sp (x := x) 32 0 I (by omega) s hs
    rw [if_pos ⟨by omega, by omega⟩] at e1
    refine PR.fold hinj L _ _ hL (k1 307 (by decide) (by decide)) (by rw [k1 102 (by decide) (by decide)]) ⟨fun l hl _ => by rw [k1 306 (by decide) (by decide)], e1.1, e1.2 ⟨by omega, by omega⟩, by rw [k1 705 (by decide) (by decide)]⟩
  refine ⟨fun s hs => ?_, fun l hl => ?_, ?_⟩
  · obtain ⟨p1, p2, p3, p4⟩ := pr s hs
    unfold eatX
    rw [k3 900 _ (by decide), k3 705 _ (by decide), e3_sp 32 0 _ (by omega) s hs, if_pos ⟨by omega, by omega⟩, p2, p3, p4, fold_keep (fun I a => stE2_keep (by decide) (by decide) (by decide) (by decide) (by decide) I a), k1 706 (by decide) (by decide)]
    exact ⟨rfl, rfl, rfl⟩
  · unfold eatX
    rw [k3 306 _ (by decide)]
    by_cases c : I 307 (la l) = -1
    · rw [if_pos c]
      refine (pr (si (la l)) (hsi l hl)).1 l hl ?_
      unfold elX
      rw [Bool.and_eq_true, decide_eq_true_eq, decide_eq_true_eq]
      exact ⟨rfl, c⟩
    · rw [if_neg c, sea_keep hinj hl L _ hL (by rw [k1 307 (by decide) (by decide)]; exact c), k1 306 (by decide) (by decide)]
  · have h2 : SM x ((L.map la).foldl (stE2 x si) (itr (stE1 x) 0 32 I)) := SM.fold _ _ (fun a ha => by
      obtain ⟨l, hl, rfl⟩ := List.mem_map.mp ha
      exact hsi l (hL l hl)) (by unfold SM; rw [k1 1114 (by decide) (by decide), k1 705 (by decide) (by decide)]; exact hSM)
    unfold SM eatX
    rw [k3 1114 _ (by decide), k3 705 _ (by decide)]
    exact h2
-- what comes in, and what spoils
def brV (w v : Int32) : Int32 := if v = -1 ∨ v ≤ w then -1 else v
theorem stBr_at {w : Int32} {I : MI} {a b : Nat} : (stBr w I a) 307 b = if b = a then brV w (I 307 a) else I 307 b := by
  unfold stBr brV
  by_cases c : I 307 a = -1 ∨ I 307 a ≤ w
  · rw [if_pos c, if_pos c]
    by_cases e : b = a
    · subst e; rw [up2s, if_pos rfl]
    · rw [up2o e, if_neg e]
  · rw [if_neg c, if_neg c]
    by_cases e : b = a
    · subst e; rw [if_pos rfl]
    · rw [if_neg e]
theorem br_fold {w : Int32} {la : Nat → Nat} {n : Nat} (hinj : ∀ i j, i < n → j < n → la i = la j → i = j) {i : Nat} (hi : i < n) : ∀ (L : List Nat) (I : MI), L.Nodup → (∀ j ∈ L, j < n) → ((L.map la).foldl (stBr w) I) 307 (la i) = if i ∈ L then brV w (I 307 (la i)) else I 307 (la i)
  | [], I, _, _ => by rw [if_neg List.not_mem_nil]; rfl
  | a :: L, I, hn, hL => by
    rw [List.nodup_cons] at hn
    rw [List.map_cons, List.foldl_cons, br_fold hinj hi L _ hn.2 (fun j hj => hL j (List.mem_cons_of_mem _ hj)), stBr_at]
    by_cases e : i = a
    · subst e
      rw [if_neg hn.1, if_pos rfl, if_pos List.mem_cons_self]
    · rw [if_neg (fun q => e (hinj i a hi (hL a List.mem_cons_self) q))]
      exact ite_c ⟨fun q => List.mem_cons_of_mem _ q, fun q => by
        rcases List.mem_cons.mp q with q | q
        · exact absurd q e
        · exact q⟩
theorem loCo_keep {x : Nat} {si bm : Nat → Nat} {w : Int32} {J I : MI} {a b : Nat} (h : b ≠ a) : loCo x si w J (stCo x si bm w J I a) b = loCo x si w J I b := by
  unfold loCo
  rw [stCo_keep (f := 302) (by decide) (by decide) (by decide), stCo_keep (f := 307) (by decide) (by decide) (by decide)]
  have : (stCo x si bm w J I a) 306 b = I 306 b := by
    unfold stCo
    rw [up2n (by decide), up2n (by decide), up2o h]
  rw [this]
theorem co_fold {x n : Nat} {si bm la : Nat → Nat} {w : Int32} {J : MI} (hinj : ∀ i j, i < n → j < n → la i = la j → i = j) : ∀ (L : List Nat) (I : MI), L.Nodup → (∀ j ∈ L, j < n) → (∀ i, i < n → ((L.map la).foldl (stCo x si bm w J) I) 306 (la i) = if i ∈ L then I 306 (la i) - loCo x si w J I (la i) else I 306 (la i)) ∧ (∀ b, ((L.map la).foldl (stCo x si bm w J) I) 311 b = I 311 b + sm (fun i => if bm (la i) = b then loCo x si w J I (la i) else 0) L) ∧ ((L.map la).foldl (stCo x si bm w J) I) 1113 x = I 1113 x + sm (fun i => loCo x si w J I (la i)) L
  | [], I, _, _ => ⟨fun i _ => by rw [if_neg List.not_mem_nil]; rfl, fun b => by rw [sm, Int32.add_zero]; rfl, by rw [sm, Int32.add_zero]; rfl⟩
  | a :: L, I, hn, hL => by
    rw [List.nodup_cons] at hn
    obtain ⟨h1, h2, h3⟩ := co_fold (x := x) (si := si) (bm := bm) (w := w) (J := J) hinj L (stCo x si bm w J I (la a)) hn.2 (fun j hj => hL j (List.mem_cons_of_mem _ hj))
    have han := hL a List.mem_cons_self
    have hlo : ∀ i ∈ L, loCo x si w J (stCo x si bm w J I (la a)) (la i) = loCo x si w J I (la i) := fun i hi => loCo_keep (fun q => hn.1 (by rw [← hinj i a (hL i (List.mem_cons_of_mem _ hi)) han q]; exact hi))
    have c6 : ∀ b, (stCo x si bm w J I (la a)) 306 b = if b = la a then I 306 (la a) - loCo x si w J I (la a) else I 306 b := fun b => by
      unfold stCo
      rw [up2n (by decide), up2n (by decide)]
      by_cases e : b = la a
      · rw [e, up2s, if_pos rfl]
      · rw [up2o e, if_neg e]
    have c11 : ∀ b, (stCo x si bm w J I (la a)) 311 b = I 311 b + (if bm (la a) = b then loCo x si w J I (la a) else 0) := fun b => by
      unfold stCo
      by_cases e : b = bm (la a)
      · subst e; rw [up2s, if_pos rfl]
      · rw [up2o e, up2n (by decide), up2n (by decide), if_neg (fun q => e q.symm), Int32.add_zero]
    have c13 : (stCo x si bm w J I (la a)) 1113 x = I 1113 x + loCo x si w J I (la a) := by
      unfold stCo
      rw [up2n (by decide), up2s]
    rw [List.map_cons, List.foldl_cons]
    refine ⟨fun i hi => ?_, fun b => ?_, ?_⟩
    · rw [h1 i hi]
      by_cases e : i = a
      · subst e
        rw [if_neg hn.1, if_pos List.mem_cons_self, c6, if_pos rfl]
      · have el : la i ≠ la a := fun q => e (hinj i a hi han q)
        rw [c6, if_neg el, loCo_keep el]
        exact ite_c ⟨fun q => List.mem_cons_of_mem _ q, fun q => by
          rcases List.mem_cons.mp q with q | q
          · exact absurd q e
          · exact q⟩
    · rw [h2 b, c11, sm, Int32.add_assoc]
      congr 2
      exact sm_congr _ (fun i hi => by rw [hlo i hi])
    · rw [h3, c13, sm, Int32.add_assoc]
      congr 2
      exact sm_congr _ (fun i hi => hlo i hi)
