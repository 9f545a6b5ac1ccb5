-- THE WEEK: what spoils in the reference; the rows of the weeks
def loW (m : Nat) (kf : Nat → Nat) (w : Int32) (J : MI) (l : Nat) : Int32 := J (m + 9) l * partM (J (m + 3)) (10 * kf l + ageN ((w - J (m + 8) l) / 4)) (bI (¬ brV w (J (m + 11) l) = -1)) / 1000
theorem cmM_at {m l : Nat} {w : Int32} {J : MI} : (∀ j, cmM m l w J (m + 11) j = if j = l then brV w (J (m + 11) l) else J (m + 11) j) ∧ ∀ b, b ≠ m + 11 → cmM m l w J b = J b := by
  unfold cmM brV
  by_cases c : J (m + 11) l ≠ -1 ∧ J (m + 11) l ≤ w
  · rw [if_pos c, if_pos (Or.inr c.2)]
    refine ⟨fun j => ?_, fun b hb => up2_ne _ _ _ hb⟩
    by_cases e : j = l
    · subst e; rw [up2s, if_pos rfl]
    · rw [up2o e, if_neg e]
  · rw [if_neg c]
    refine ⟨fun j => ?_, fun b hb => rfl⟩
    by_cases e : j = l
    · subst e
      rw [if_pos rfl]
      by_cases e1 : J (m + 11) j = -1
      · rw [if_pos (Or.inl e1), e1]
      · rw [if_neg (fun q => by
          rcases q with q | q
          · exact e1 q
          · exact c ⟨e1, q⟩)]
    · rw [if_neg e]
theorem lo_cm {m l : Nat} {kf : Nat → Nat} {w : Int32} {J : MI} : loM m l (kf l) w (cmM m l w J) = loW m kf w J l := by
  obtain ⟨h1, h2⟩ := cmM_at (m := m) (l := l) (w := w) (J := J)
  unfold loM loW
  rw [h2 (m + 9) (by omega), h2 (m + 3) (by omega), h2 (m + 8) (by omega), h1 l, if_pos rfl]
theorem loW_fr {m l : Nat} {kf : Nat → Nat} {w : Int32} {J J' : MI} (e9 : J' (m + 9) l = J (m + 9) l) (e3 : J' (m + 3) = J (m + 3)) (e8 : J' (m + 8) = J (m + 8)) (e11 : J' (m + 11) l = J (m + 11) l) : loW m kf w J' l = loW m kf w J l := by
  unfold loW
  rw [e9, e3, e8, e11]
theorem wk_fold {m : Nat} {kf gf : Nat → Nat} {w : Int32} : ∀ (n i : Nat) (J : MI), (∀ b, b ≠ m + 9 → b ≠ m + 11 → b ≠ m + 18 → itr (wk1 m kf gf w) i n J b = J b) ∧ (∀ l, itr (wk1 m kf gf w) i n J (m + 11) l = if i ≤ l ∧ l < i + n then brV w (J (m + 11) l) else J (m + 11) l) ∧ (∀ l, itr (wk1 m kf gf w) i n J (m + 9) l = if i ≤ l ∧ l < i + n then J (m + 9) l - loW m kf w J l else J (m + 9) l) ∧ (∀ g, itr (wk1 m kf gf w) i n J (m + 18) g = J (m + 18) g + sm (fun l => if gf l = g then loW m kf w J l else 0) (List.range' i n)) ∧ ∀ N, (∀ l, i ≤ l → l < i + n → gf l < N) → sm (itr (wk1 m kf gf w) i n J (m + 18)) (List.range N) = sm (J (m + 18)) (List.range N) + sm (loW m kf w J) (List.range' i n)
  | 0, i, J => ⟨fun _ _ _ _ => rfl, fun l => by rw [if_neg (by omega)]; rfl, fun l => by rw [if_neg (by omega)]; rfl, fun g => by simp [itr, sm], fun N _ => by simp [itr, sm]⟩
  | n + 1, i, J => by
    obtain ⟨h1, h2, h3, h4, h5⟩ := wk_fold (m := m) (kf := kf) (gf := gf) (w := w) n (i + 1) (wk1 m kf gf w i J)
    obtain ⟨c1, c2⟩ := cmM_at (m := m) (l := i) (w := w) (J := J)
    have w1 : ∀ b, b ≠ m + 9 → b ≠ m + 11 → b ≠ m + 18 → wk1 m kf gf w i J b = J b := fun b b1 b2 b3 => by
      unfold wk1 spM
      rw [up2_ne _ _ _ b3, up2_ne _ _ _ b1, c2 b b2]
    have w11 : ∀ l, wk1 m kf gf w i J (m + 11) l = if l = i then brV w (J (m + 11) i) else J (m + 11) l := fun l => by
      unfold wk1 spM
      rw [up2n (by omega), up2n (by omega), c1]
    have w9 : ∀ l, wk1 m kf gf w i J (m + 9) l = if l = i then J (m + 9) i - loW m kf w J i else J (m + 9) l := fun l => by
      unfold wk1 spM
      rw [up2n (by omega), lo_cm, c2 (m + 9) (by omega)]
      by_cases e : l = i
      · subst e; rw [up2s, if_pos rfl]
      · rw [up2o e, if_neg e, c2 (m + 9) (by omega)]
    have w18 : wk1 m kf gf w i J (m + 18) = va_up (J (m + 18)) (gf i) (J (m + 18) (gf i) + loW m kf w J i) := by
      unfold wk1 spM
      rw [up2_self, lo_cm, up2_ne _ _ _ (by omega), c2 (m + 18) (by omega)]
    have hlo : ∀ l, l ≠ i → loW m kf w (wk1 m kf gf w i J) l = loW m kf w J l := fun l hl => loW_fr (by rw [w9, if_neg hl]) (w1 _ (by omega) (by omega) (by omega)) (w1 _ (by omega) (by omega) (by omega)) (by rw [w11, if_neg hl])
    have hr : ∀ l ∈ List.range' (i + 1) n, l ≠ i := fun l hl => by have := List.mem_range'_1.mp hl; omega
    refine ⟨fun b b1 b2 b3 => ?_, fun l => ?_, fun l => ?_, fun g => ?_, fun N hN => ?_⟩
    · rw [itr, h1 b b1 b2 b3, w1 b b1 b2 b3]
    · rw [itr, h2 l, w11]
      by_cases e : l = i
      · subst e; rw [if_neg (by omega), if_pos rfl, if_pos ⟨by omega, by omega⟩]
      · rw [if_neg e]
        exact ite_c ⟨fun c => ⟨by omega, by omega⟩, fun c => ⟨by omega, by omega⟩⟩
    · rw [itr, h3 l, w9]
      by_cases e : l = i
      · subst e; rw [if_neg (by omega), if_pos rfl, if_pos ⟨by omega, by omega⟩]
      · rw [if_neg e, hlo l e]
        exact ite_c ⟨fun c => ⟨by omega, by omega⟩, fun c => ⟨by omega, by omega⟩⟩
    · rw [itr, h4 g, w18, List.range'_succ, sm, ← Int32.add_assoc]
      congr 1
      · by_cases e : g = gf i
        · subst e; rw [va_up_self, if_pos rfl]
        · rw [va_up_ne _ _ e, if_neg (fun q => e q.symm), Int32.add_zero]
      · exact sm_congr _ (fun l hl => by rw [hlo l (hr l hl)])
    · rw [itr, h5 N (fun l a b => hN l (by omega) (by omega)), w18, List.range'_succ, sm, ← Int32.add_assoc]
      have su := sm_up (f := J (m + 18)) (a := gf i) (X := J (m + 18) (gf i) + loW m kf w J i) (List.range N) List.nodup_range (List.mem_range.mpr (hN i (by omega) (by omega)))
      rw [Int32.add_comm (J (m + 18) (gf i)) (loW m kf w J i), ← Int32.add_assoc] at su
      have su := i_cancel su
      rw [Int32.add_comm (loW m kf w J i)] at su
      rw [su, sm_congr (f := loW m kf w (wk1 m kf gf w i J)) (g := loW m kf w J) _ (fun l hl => hlo l (hr l hl))]
theorem loss_eq {x m k : Nat} {J : MI} (h : ∀ i, i < 10 → J (xKd x k + 1) i = J (m + 3) (10 * k + i)) (c v s : Int32) : lossS (J (xKd x k + 1)) c v s = c * partM (J (m + 3)) (10 * k + ageN (v / 4)) s / 1000 := by
  unfold lossS partM
  rw [h _ (age_ok (v / 4)).2]
theorem part_ok {f : Nat → Int32} {i : Nat} {s : Int32} (h : Nn (f i) 1000) : Nn (partM f i s) 1000 := by
  unfold partM
  split
  · exact h
  · obtain ⟨a, ha, e⟩ := h
    rw [e, show (2 : Int32) = nI 2 from rfl, nI_m, show (1000 : Int32) = nI 1000 from rfl, nI_min (by omega) (by omega)]
    exact ⟨_, by omega, rfl⟩
theorem lost_ok {c q : Int32} (h1 : Nn c 5000) (h2 : Nn q 1000) : Nn (c - c * q / 1000) 5000 := by
  obtain ⟨a, ha, ea⟩ := h1
  obtain ⟨b, hb, eb⟩ := h2
  have hm : a * b ≤ a * 1000 := Nat.mul_le_mul_left a hb
  have hd : a * b / 1000 ≤ a := Nat.div_le_of_le_mul (by omega)
  rw [ea, eb, nI_m, show (1000 : Int32) = nI 1000 from rfl, nI_d (by omega) (by omega), nI_sub hd]
  exact ⟨_, by omega, rfl⟩
-- the rows
def bkG (m N w s : Nat) (J : MI) : MI := up2 J (m + 22) (32 * w + s) (itr (stkM J m (nI (s / 4)) (nI (s % 4))) 0 N 0)
theorem bkG_itr {m N w : Nat} (J : MI) : itr (bk1 m N w) 0 8 J = itr (bkG m N w) 0 32 J := by
  simp only [itr, bk1, bk2, bkG, Nat.zero_add, Nat.reduceAdd, Nat.reduceDiv, Nat.reduceMod, Nat.zero_div, Nat.zero_mod, Nat.add_assoc, Nat.reduceMul]
theorem stkM_fr {m : Nat} {J J' : MI} {p k : Int32} (e10 : J' (m + 10) = J (m + 10)) (e7 : J' (m + 7) = J (m + 7)) (e11 : J' (m + 11) = J (m + 11)) (e9 : J' (m + 9) = J (m + 9)) : stkM J' m p k = stkM J m p k := by
  funext l s
  unfold stkM
  rw [e10, e7, e11, e9]
theorem bk_sp {m N w : Nat} : ∀ (n i : Nat) (J : MI), i + n ≤ 32 → (∀ b, b ≠ m + 22 → itr (bkG m N w) i n J b = J b) ∧ ∀ j, itr (bkG m N w) i n J (m + 22) j = if 32 * w + i ≤ j ∧ j < 32 * w + (i + n) then itr (stkM J m (nI ((j - 32 * w) / 4)) (nI ((j - 32 * w) % 4))) 0 N 0 else J (m + 22) j
  | 0, i, J, _ => ⟨fun _ _ => rfl, fun j => by rw [if_neg (by omega)]; rfl⟩
  | n + 1, i, J, h => by
    obtain ⟨h1, h2⟩ := bk_sp (m := m) (N := N) (w := w) n (i + 1) (bkG m N w i J) (by omega)
    have g : ∀ b, b ≠ m + 22 → bkG m N w i J b = J b := fun b hb => up2_ne _ _ _ hb
    have e : ∀ p k, stkM (bkG m N w i J) m p k = stkM J m p k := fun p k => stkM_fr (g _ (by omega)) (g _ (by omega)) (g _ (by omega)) (g _ (by omega))
    refine ⟨fun b hb => by rw [itr, h1 b hb, g b hb], fun j => ?_⟩
    rw [itr, h2 j, e]
    by_cases ej : j = 32 * w + i
    · subst ej
      rw [if_neg (by omega), if_pos ⟨by omega, by omega⟩]
      unfold bkG
      rw [up2s, show 32 * w + i - 32 * w = i by omega]
    · have : bkG m N w i J (m + 22) j = J (m + 22) j := up2o ej
      rw [this]
      exact ite_c ⟨fun c => ⟨by omega, by omega⟩, fun c => ⟨by omega, by omega⟩⟩
theorem row_sp {si la : Nat → Nat} {I : MI} {s : Nat} : ∀ (L : List Nat) (f : Nat → Int32), ((L.map la).foldl (rowS si I) f) s = f s + sm (fun l => if I 307 (la l) = -1 ∧ si (la l) = s then I 306 (la l) else 0) L
  | [], f => by simp [sm]
  | a :: L, f => by
    rw [List.map_cons, List.foldl_cons, row_sp L, sm, ← Int32.add_assoc]
    congr 1
    unfold rowS
    by_cases c : I 307 (la a) = -1
    · rw [if_pos c]
      by_cases e : si (la a) = s
      · rw [e, va_up_self, if_pos ⟨c, rfl⟩]
      · rw [va_up_ne _ _ (fun q => e q.symm), if_neg (fun q => e q.2), Int32.add_zero]
    · rw [if_neg c, if_neg (fun q => c q.1), Int32.add_zero]
