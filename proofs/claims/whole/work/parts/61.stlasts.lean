-- LASTS: the same on both sides
theorem xSo_12 (x a b : Nat) : xSo x a + 1 ≠ xSo x b + 2 := by
  have h1 : a % 4 < 4 := Nat.mod_lt _ (by decide)
  have h2 : b % 4 < 4 := Nat.mod_lt _ (by decide)
  unfold xSo
  generalize a / 4 = p
  generalize b / 4 = q
  generalize a % 4 = r at h1
  generalize b % 4 = s at h2
  rcases (show r = 0 ∨ r = 1 ∨ r = 2 ∨ r = 3 by omega) with rfl | rfl | rfl | rfl <;> rcases (show s = 0 ∨ s = 1 ∨ s = 2 ∨ s = 3 by omega) with rfl | rfl | rfl | rfl <;> omega
theorem bI_c {p q : Prop} [Decidable p] [Decidable q] (h : p ↔ q) : bI p = bI q := ite_c h
theorem loss_eq2 {k : Nat} {f g : Nat → Int32} (h : ∀ i, i < 10 → f i = g (10 * k + i)) (c v s : Int32) : lossS f c v s = c * partM g (10 * k + ageN (v / 4)) s / 1000 := by
  unfold lossS partM
  rw [h _ (age_ok (v / 4)).2]
/-- the trial in week w + i -/
def TR (x m p w n : Nat) (la si : Nat → Nat) (i : Nat) (I J : MI) : Prop :=
  (∀ l, l < n → Nn (J (m + 23) l) 5000 ∧ (si (la l) / 4 = p → I 312 (la l) = J (m + 23) l ∧ (J (m + 24) l = I 307 (la l) ∨ (J (m + 24) l = -1 ∧ I 307 (la l) ≤ nI (w + i)))) ∧ (si (la l) / 4 ≠ p → I 312 (la l) = 0)) ∧
  ∀ k, k < 4 → I 900 (xSo x (4 * p + k) + 2) = J (m + 25) k ∧ Nn (J (m + 25) k) 500
/-- what the trial leaves alone -/
def TS (x m n p : Nat) (la si : Nat → Nat) (Jx I J : MI) : Prop :=
  (∀ l, l < n → si (la l) < 32 ∧ J (m + 10) l = nI (si (la l) / 4) ∧ J (m + 7) l = nI (si (la l) % 4) ∧ I 302 (la l) = J (m + 8) l) ∧
  (I 501 (xPl x p) = J (m + 1) p ∧ Nn (J (m + 1) p) 1000) ∧ (∀ k, k < 4 → I 102 (xKd x k) = J (m + 2) k ∧ Nn (J (m + 2) k) 500 ∧ 1 ≤ J (m + 2) k) ∧ ∀ k i, k < 4 → i < 10 → Jx (xKd x k + 1) i = J (m + 3) (10 * k + i) ∧ Nn (J (m + 3) (10 * k + i)) 1000
theorem br_there {w v : Int32} : (brV w v = -1) ↔ (v = -1 ∨ v ≤ w) := by
  unfold brV
  split
  · rename_i h; exact ⟨fun _ => h, fun _ => rfl⟩
  · rename_i h
    exact ⟨fun q => Or.inl q, fun q => absurd q h⟩
set_option maxHeartbeats 8000000 in
theorem TR.week {x m p w n i : Nat} {la si : Nat → Nat} {L : List Nat} {Jx I J : MI} (h : TR x m p w n la si i I J) (ts : TS x m n p la si Jx I J) (hp8 : p < 8) (hw : w ≤ 200) (hi : i < 60) (hinj : ∀ i j, i < n → j < n → la i = la j → i = j) (hL : L.Perm (List.range n)) (hp : L.Pairwise (before (J (m + 8)))) : (isB x p (isI x p si (nI (w + i)) (L.map la) Jx I) ↔ ¬ (lwA m p n (fun l => si (la l) % 4) (nI (w + i)) J).1 = true) ∧ ((lwA m p n (fun l => si (la l) % 4) (nI (w + i)) J).1 = true → TR x m p w n la si (i + 1) (isI x p si (nI (w + i)) (L.map la) Jx I) (lwA m p n (fun l => si (la l) % 4) (nI (w + i)) J).2) := by
  obtain ⟨h1, h2⟩ := h
  obtain ⟨t1, t2, t3, t4⟩ := ts
  have hnd : L.Nodup := hL.nodup_iff.mpr List.nodup_range
  have hlt : ∀ l ∈ L, l < n := fun l hl => List.mem_range.mp (hL.mem_iff.mp hl)
  have hmem : ∀ l, l < n → l ∈ L := fun l hl => hL.mem_iff.mpr (List.mem_range.mpr hl)
  have hN : ∀ l ∈ L, l < n ∧ Nn (I 312 (la l)) 5000 := fun l hl => by
    have hln := hlt l hl
    refine ⟨hln, ?_⟩
    by_cases c : si (la l) / 4 = p
    · rw [((h1 l hln).2.1 c).1]; exact (h1 l hln).1
    · rw [(h1 l hln).2.2 c]
      exact ⟨0, by omega, rfl⟩
  obtain ⟨f24, f23⟩ := lt_fold (m := m) (p := p) (kf := fun l => si (la l) % 4) (w := nI (w + i)) n 0 J
  have fk : ∀ b, b ≠ m + 23 → b ≠ m + 24 → itr (lw1 m p (fun l => si (la l) % 4) (nI (w + i))) 0 n J b = J b := fun b b1 b2 => itr_keep (fun l J => lw1_keep b1 b2) n 0 J
  have hlw : lwA m p n (fun l => si (la l) % 4) (nI (w + i)) J = leA m p n 4 0 (itr (lw1 m p (fun l => si (la l) % 4) (nI (w + i))) 0 n J) := rfl
  generalize hJ1 : itr (lw1 m p (fun l => si (la l) % 4) (nI (w + i))) 0 n J = J1 at f24 f23 fk hlw
  have atp : ∀ l, l < n → (J (m + 10) l = nI p ↔ si (la l) / 4 = p) := fun l hl => by
    have := t1 l hl
    rw [this.2.1]
    exact nI_si (by omega) (by omega)
  have r24 : ∀ l, l < n → si (la l) / 4 = p → J1 (m + 24) l = brV (nI (w + i)) (J (m + 24) l) := fun l hl c => by rw [f24 l, if_pos ⟨⟨by omega, by omega⟩, (atp l hl).mpr c⟩]
  have thr : ∀ l, l < n → si (la l) / 4 = p → (brV (nI (w + i)) (J (m + 24) l) = -1 ↔ (I 307 (la l) = -1 ∨ I 307 (la l) ≤ nI (w + i))) := fun l hl c => by
    rw [br_there]
    rcases ((h1 l hl).2.1 c).2 with q | ⟨q1, q2⟩
    · rw [q]
    · rw [q1]
      exact ⟨fun _ => Or.inr q2, fun _ => Or.inl rfl⟩
  have hlo : ∀ l, l < n → si (la l) / 4 = p → ewL x (si (la l)) (nI (w + i)) Jx I (la l) = loT m (fun l => si (la l) % 4) (nI (w + i)) J l := fun l hl c => by
    unfold ewL loT
    rw [loss_eq2 (k := si (la l) % 4) (g := J (m + 3)) (fun j hj => (t4 _ j (by omega) hj).1), ((h1 l hl).2.1 c).1, (t1 l hl).2.2.2, bI_c (not_congr (thr l hl c))]
  have r23 : ∀ l, l < n → si (la l) / 4 = p → J1 (m + 23) l = J (m + 23) l - loT m (fun l => si (la l) % 4) (nI (w + i)) J l := fun l hl c => by rw [f23 l, if_pos ⟨⟨by omega, by omega⟩, (atp l hl).mpr c⟩]
  have n23 : ∀ l, l < n → Nn (J1 (m + 23) l) 5000 := fun l hl => by
    by_cases c : si (la l) / 4 = p
    · rw [r23 l hl c]
      exact lost_ok (h1 l hl).1 (part_ok (t4 (si (la l) % 4) _ (by omega) (age_ok _).2).2)
    · rw [f23 l, if_neg (fun q => c ((atp l hl).mp q.2))]
      exact (h1 l hl).1
  have hS1 : ∀ l, l < n → si (la l) < 32 ∧ J1 (m + 10) l = nI (si (la l) / 4) ∧ J1 (m + 7) l = nI (si (la l) % 4) := fun l hl => by
    rw [fk _ (by omega) (by omega), fk _ (by omega) (by omega)]
    exact ⟨(t1 l hl).1, (t1 l hl).2.1, (t1 l hl).2.2.1⟩
  have hr1 : ∀ k, k < 4 → Nn (J1 (m + 2) k) 500 ∧ 1 ≤ J1 (m + 2) k := fun k hk => by rw [fk _ (by omega) (by omega)]; exact (t3 k hk).2
  have hm1 : Nn (J1 (m + 1) p) 1000 := by rw [fk _ (by omega) (by omega)]; exact t2.2
  have ho1 : ∀ k, k < 4 → Nn (J1 (m + 25) k) 500 := fun k hk => by rw [fk _ (by omega) (by omega)]; exact (h2 k hk).2
  obtain ⟨a1, a2⟩ := leA_sp (m := m) (p := p) (N := n) (L := L) (S := fun l => si (la l)) (J0 := J1) hp8 hL (by rw [fk _ (by omega) (by omega)]; exact hp) hS1 hr1 hm1 ho1 4 0 J1 rfl ⟨fun _ _ _ => rfl, fun l hl => by rw [if_neg (by omega)], n23, fun j hj => by omega, fun _ _ => rfl⟩
  rw [← hlw] at a1 a2
  have ee : ∀ k, k < 4 → (etX x p si la L (nI (w + i)) Jx I k).2 = (etM m p L J1 k).2 ∧ ∀ l, (l < n ∧ si (la l) = 4 * p + k) → (etX x p si la L (nI (w + i)) Jx I k).1 l = (etM m p L J1 k).1 l := fun k hk => by
    unfold etX etM
    rw [t2.1, (t3 k hk).1, (h2 k hk).1, fk (m + 1) (by omega) (by omega), fk (m + 2) (by omega) (by omega), fk (m + 25) (by omega) (by omega)]
    refine fold_cong (T := fun l => l < n ∧ si (la l) = 4 * p + k) L _ _ (fun l hl => ?_) rfl (fun l hl => ?_)
    · have hln := hlt l hl
      have e1 := elp_iff (F := J1 (m + 24)) hS1 hln hp8 hk
      have e2 : elT si la (I 307) (nI (w + i)) (4 * p + k) l = true ↔ (si (la l) = 4 * p + k ∧ (I 307 (la l) = -1 ∨ I 307 (la l) ≤ nI (w + i))) := by
        unfold elT
        rw [Bool.and_eq_true, decide_eq_true_eq, decide_eq_true_eq]
      have e3 : elT si la (I 307) (nI (w + i)) (4 * p + k) l = true ↔ elM (J1 (m + 10)) (J1 (m + 7)) (J1 (m + 24)) p k l = true := by
        rw [e1, e2]
        constructor
        · rintro ⟨q1, q2⟩
          have c : si (la l) / 4 = p := by omega
          exact ⟨⟨c, by omega⟩, by rw [r24 l hln c]; exact (thr l hln c).mpr q2⟩
        · rintro ⟨⟨q1, q2⟩, q3⟩
          rw [r24 l hln q1] at q3
          exact ⟨by omega, (thr l hln q1).mp q3⟩
      refine ⟨?_, fun q => ⟨hln, (e2.mp q).1⟩⟩
      cases ha : elT si la (I 307) (nI (w + i)) (4 * p + k) l <;> cases hb : elM (J1 (m + 10)) (J1 (m + 7)) (J1 (m + 24)) p k l
      · rfl
      · exact absurd (e3.mpr hb) (by rw [ha]; simp)
      · exact absurd (e3.mp ha) (by rw [hb]; simp)
      · rfl
    · have c : si (la l) / 4 = p := by omega
      show I 312 (la l) - ewL x (4 * p + k) (nI (w + i)) Jx I (la l) = J1 (m + 23) l
      rw [← hl.2, hlo l hl.1 c, r23 l hl.1 c, ((h1 l hl.1).2.1 c).1]
  have sp : ∀ k, k < 4 → _ := fun k hk => isI_sp (x := x) (p := p) (n := n) (la := la) (si := si) (L := L) (w := nI (w + i)) (J := Jx) (I := I) hinj hnd hN hk
  refine ⟨?_, fun ht => ?_⟩
  · rw [a1]
    unfold isB
    constructor
    · rintro ⟨k, hk, hq⟩ hall
      rw [(sp k hk).2.1, (ee k hk).1] at hq
      exact hq (hall k (by omega) hk)
    · intro hq
      by_cases q : ∃ k, k < 4 ∧ ¬ (isI x p si (nI (w + i)) (L.map la) Jx I) 901 (xSo x (4 * p + k) + 2) ≤ 0
      · exact q
      · exfalso
        refine hq (fun j _ hj => ?_)
        by_cases r : (etM m p L J1 j).2.2.1 ≤ 0
        · exact r
        · exact absurd ⟨j, hj, by rw [(sp j hj).2.1, (ee j hj).1]; exact r⟩ q
  · obtain ⟨b1, b2, b3, b4, b5⟩ := a2 ht
    refine ⟨fun l hl => ⟨b3 l hl, fun c => ⟨?_, ?_⟩, fun c => ?_⟩, fun k hk => ?_⟩
    · have hs := (t1 l hl).1
      have es : si (la l) = 4 * p + si (la l) % 4 := by omega
      rw [(sp (si (la l) % 4) (by omega)).2.2 l (hmem l hl) es, (ee (si (la l) % 4) (by omega)).2 l ⟨hl, es⟩, b2 l hl]
      by_cases c2 : J1 (m + 24) l = -1
      · rw [if_pos ⟨⟨c, by omega⟩, c2⟩]
      · rw [if_neg (fun q => c2 q.2)]
        unfold etM
        refine fold_c L _ l (Or.inr ?_)
        have := mt (elp_iff (F := J1 (m + 24)) hS1 hl hp8 (show si (la l) % 4 < 4 by omega)).mp (fun q => c2 q.2)
        simpa using this
    · rw [isI_keep (by decide) (by decide) (by decide), b1 _ (by omega) (by omega), r24 l hl c]
      have mono : ∀ v : Int32, v ≤ nI (w + i) → v ≤ nI (w + (i + 1)) := fun v hv => Int32.le_trans hv (nI_le (by omega) (by omega))
      unfold brV
      rcases ((h1 l hl).2.1 c).2 with q | ⟨q1, q2⟩
      · rw [q]
        split
        · rename_i hb
          rcases hb with hb | hb
          · exact Or.inl hb.symm
          · exact Or.inr ⟨rfl, mono _ hb⟩
        · exact Or.inl rfl
      · rw [q1, if_pos (Or.inl rfl)]
        exact Or.inr ⟨rfl, mono _ q2⟩
    · rw [is_312 _ _ (by rw [(h1 l hl).2.2 c]; decide), (h1 l hl).2.2 c]
    · rw [(sp k hk).1, (ee k hk).1, b4 k hk]
      refine ⟨rfl, ?_⟩
      have eo := fold_ok (el := elM (J1 (m + 10)) (J1 (m + 7)) (J1 (m + 24)) p k) (hr1 k hk).1 (hr1 k hk).2 L (J1 (m + 23), le0 (J1 (m + 1) p) (J1 (m + 25) k), nd0 (J1 (m + 1) p) (J1 (m + 25) k), 0) hlt ⟨n23, need_ok hm1 (ho1 k hk)⟩
      exact eo.2.1
theorem la_eq {x m p w n : Nat} {la si : Nat → Nat} {L : List Nat} {Jx : MI} {F8 : Nat → Int32} (hp8 : p < 8) (hw : w ≤ 200) (hinj : ∀ i j, i < n → j < n → la i = la j → i = j) (hL : L.Perm (List.range n)) (hp : L.Pairwise (before F8)) : ∀ (k i : Nat) (I J : MI), i + k = 60 → TR x m p w n la si i I J → TS x m n p la si Jx I J → J (m + 8) = F8 → (laX x p w si (L.map la) Jx k i I).1 = (laN m p w n (fun l => si (la l) % 4) k i J).1
  | 0, _, _, _, _, _, _, _ => rfl
  | k + 1, i, I, J, hi, h, ts, e8 => by
    obtain ⟨g1, g2⟩ := h.week ts hp8 hw (by omega) hinj hL (by rw [e8]; exact hp)
    rw [laN]
    by_cases c : (lwA m p n (fun l => si (la l) % 4) (nI (w + i)) J).1 = true
    · rw [if_pos c, laX_f (fun q => g1.mp q c)]
      obtain ⟨t1, t2, t3, t4⟩ := ts
      have kJ : ∀ b, b ≠ m + 23 → b ≠ m + 24 → b ≠ m + 25 → (lwA m p n (fun l => si (la l) % 4) (nI (w + i)) J).2 b = J b := fun b b1 b2 b3 => lwA_keep b1 b2 b3
      have kI : ∀ f, f ≠ 312 → f ≠ 900 → f ≠ 901 → (isI x p si (nI (w + i)) (L.map la) Jx I) f = I f := fun f f1 f2 f3 => isI_keep f1 f2 f3
      refine la_eq hp8 hw hinj hL hp k (i + 1) _ _ (by omega) (g2 c) ⟨fun l hl => ?_, ?_, fun q hq => ?_, fun q j hq hj => ?_⟩ ((kJ _ (by omega) (by omega) (by omega)).trans e8)
      · rw [kJ _ (by omega) (by omega) (by omega), kJ _ (by omega) (by omega) (by omega), kJ _ (by omega) (by omega) (by omega), kI 302 (by decide) (by decide) (by decide)]
        exact t1 l hl
      · rw [kJ _ (by omega) (by omega) (by omega), kI 501 (by decide) (by decide) (by decide)]
        exact t2
      · rw [kJ _ (by omega) (by omega) (by omega), kI 102 (by decide) (by decide) (by decide)]
        exact t3 q hq
      · rw [kJ _ (by omega) (by omega) (by omega)]
        exact t4 q j hq hj
    · rw [if_neg c, laX_t (g1.mpr c)]
theorem laX_keep {x p w : Nat} {si : Nat → Nat} {ch : List Nat} {J : MI} : ∀ (k i : Nat) (I : MI), (∀ f, f ≠ 312 → f ≠ 900 → f ≠ 901 → (laX x p w si ch J k i I).2 f = I f) ∧ ∀ b, (∀ s, b ≠ xSo x s + 2) → (laX x p w si ch J k i I).2 900 b = I 900 b
  | 0, _, _ => ⟨fun _ _ _ _ => rfl, fun _ _ => rfl⟩
  | k + 1, i, I => by
    by_cases c : isB x p (isI x p si (nI (w + i)) ch J I)
    · rw [laX_t c]
      exact ⟨fun f h1 h2 h3 => isI_keep h1 h2 h3, fun b hb => is_900 hb ch I⟩
    · rw [laX_f c]
      obtain ⟨g1, g2⟩ := laX_keep (x := x) (p := p) (w := w) (si := si) (ch := ch) (J := J) k (i + 1) (isI x p si (nI (w + i)) ch J I)
      exact ⟨fun f h1 h2 h3 => (g1 f h1 h2 h3).trans (isI_keep h1 h2 h3), fun b hb => (g2 b hb).trans (is_900 hb ch I)⟩
theorem laN_keep {m p w N b : Nat} {kf : Nat → Nat} (h1 : b ≠ m + 23) (h2 : b ≠ m + 24) (h3 : b ≠ m + 25) : ∀ (k i : Nat) (J : MI), (laN m p w N kf k i J).2 b = J b
  | 0, _, _ => rfl
  | k + 1, i, J => by
    rw [laN]
    split
    · rw [laN_keep h1 h2 h3 k, lwA_keep h1 h2 h3]
    · exact lwA_keep h1 h2 h3
-- the start of the trial
theorem bt2_fold {p : Nat} {si la : Nat → Nat} {n : Nat} (hinj : ∀ i j, i < n → j < n → la i = la j → i = j) : ∀ (L : List Nat) (I : MI), L.Nodup → (∀ l ∈ L, l < n) → ∀ l ∈ L, ((L.map la).foldl (bt2 si p) I) 312 (la l) = if nI (si (la l) / 4) = nI p then I 306 (la l) else 0
  | [], _, _, _, l, hl => by cases hl
  | a :: L, I, hn, hL, l, hl => by
    rw [List.nodup_cons] at hn
    rw [List.map_cons, List.foldl_cons]
    have keep : ∀ (L : List Nat) (I : MI), l ∉ L → (∀ j ∈ L, j < n) → l < n → ((L.map la).foldl (bt2 si p) I) 312 (la l) = I 312 (la l) := by
      intro L
      induction L with
      | nil => intro I _ _ _; rfl
      | cons b L ih =>
        intro I h1 h2 h3
        rw [List.map_cons, List.foldl_cons, ih _ (fun q => h1 (List.mem_cons_of_mem _ q)) (fun j hj => h2 j (List.mem_cons_of_mem _ hj)) h3]
        unfold bt2
        exact up2o (fun q => h1 (by rw [hinj l b h3 (h2 b List.mem_cons_self) q]; exact List.mem_cons_self))
    by_cases e : l = a
    · subst e
      rw [keep L _ hn.1 (fun j hj => hL j (List.mem_cons_of_mem _ hj)) (hL l List.mem_cons_self)]
      unfold bt2
      rw [up2s]
    · have hl2 : l ∈ L := by
        rcases List.mem_cons.mp hl with q | q
        · exact absurd q e
        · exact q
      rw [bt2_fold hinj L _ hn.2 (fun j hj => hL j (List.mem_cons_of_mem _ hj)) l hl2, bt2_keep (by decide)]
theorem b1_sp {x p : Nat} : ∀ (n i : Nat) (I : MI), i + n ≤ 4 → ∀ k, k < 4 → (itr (bt1 x p) i n I) 900 (xSo x (4 * p + k) + 2) = if i ≤ k ∧ k < i + n then I 900 (xSo x (4 * p + k) + 1) else I 900 (xSo x (4 * p + k) + 2)
  | 0, i, I, _, k, _ => by rw [if_neg (by omega)]; rfl
  | n + 1, i, I, hin, k, hk => by
    rw [itr, b1_sp n (i + 1) _ (by omega) k hk]
    have q1 : (bt1 x p i I) 900 (xSo x (4 * p + k) + 1) = I 900 (xSo x (4 * p + k) + 1) := by
      unfold bt1
      exact up2o (xSo_12 _ _ _)
    rw [q1]
    by_cases e : k = i
    · subst e
      rw [if_neg (show ¬ (k + 1 ≤ k ∧ k < k + 1 + n) by omega), if_pos (show k ≤ k ∧ k < k + (n + 1) by omega)]
      unfold bt1
      rw [up2s]
    · have q2 : (bt1 x p i I) 900 (xSo x (4 * p + k) + 2) = I 900 (xSo x (4 * p + k) + 2) := by
        unfold bt1
        exact up2o (fun q => e (by have := xSo_inj (x := x) (a := 4 * p + k) (b := 4 * p + i) (by omega); omega))
      rw [q2]
      exact ite_c ⟨fun c => ⟨by omega, by omega⟩, fun c => ⟨by omega, by omega⟩⟩
theorem a0_sp {m : Nat} : ∀ (n i : Nat) (J : MI), (∀ b, b ≠ m + 23 → b ≠ m + 24 → itr (la0 m) i n J b = J b) ∧ ∀ l, i ≤ l → l < i + n → itr (la0 m) i n J (m + 23) l = J (m + 9) l ∧ itr (la0 m) i n J (m + 24) l = J (m + 11) l
  | 0, i, J => ⟨fun _ _ _ => rfl, fun l h1 h2 => by omega⟩
  | n + 1, i, J => by
    obtain ⟨h1, h2⟩ := a0_sp (m := m) n (i + 1) (la0 m i J)
    have g : ∀ b, b ≠ m + 23 → b ≠ m + 24 → la0 m i J b = J b := fun b b1 b2 => by unfold la0; rw [up2_ne _ _ _ b2, up2_ne _ _ _ b1]
    refine ⟨fun b b1 b2 => by rw [itr, h1 b b1 b2, g b b1 b2], fun l l1 l2 => ?_⟩
    rw [itr]
    by_cases e : l = i
    · subst e
      have keep : ∀ (n i : Nat) (J : MI) (b : Nat), l < i → itr (la0 m) i n J b l = J b l := by
        intro n
        induction n with
        | zero => intro i J b _; rfl
        | succ n ih =>
          intro i J b hi
          rw [itr, ih (i + 1) _ b (by omega)]
          unfold la0
          rw [up2o (by omega), up2o (by omega)]
      rw [keep n (l + 1) _ _ (by omega), keep n (l + 1) _ _ (by omega)]
      unfold la0
      rw [up2n (by omega), up2s, up2s]
      exact ⟨rfl, rfl⟩
    · have := h2 l (by omega) (by omega)
      rw [g (m + 9) (by omega) (by omega), g (m + 11) (by omega) (by omega)] at this
      exact this
theorem a1_sp {m p : Nat} : ∀ (n i : Nat) (J : MI), i + n ≤ 4 → (∀ b, b ≠ m + 25 → itr (la1 m p) i n J b = J b) ∧ ∀ k, itr (la1 m p) i n J (m + 25) k = if i ≤ k ∧ k < i + n then J (m + 19) (4 * p + k) else J (m + 25) k
  | 0, i, J, _ => ⟨fun _ _ => rfl, fun k => by rw [if_neg (by omega)]; rfl⟩
  | n + 1, i, J, hin => by
    obtain ⟨h1, h2⟩ := a1_sp (m := m) (p := p) n (i + 1) (la1 m p i J) (by omega)
    have g : ∀ b, b ≠ m + 25 → la1 m p i J b = J b := fun b b1 => by unfold la1; rw [up2_ne _ _ _ b1]
    refine ⟨fun b b1 => by rw [itr, h1 b b1, g b b1], fun k => ?_⟩
    rw [itr, h2 k, g (m + 19) (by omega)]
    by_cases e : k = i
    · subst e
      rw [if_neg (show ¬ (k + 1 ≤ k ∧ k < k + 1 + n) by omega), if_pos (show k ≤ k ∧ k < k + (n + 1) by omega)]
      unfold la1
      rw [up2s]
    · have : la1 m p i J (m + 25) k = J (m + 25) k := by unfold la1; rw [up2o e]
      rw [this]
      exact ite_c ⟨fun c => ⟨by omega, by omega⟩, fun c => ⟨by omega, by omega⟩⟩
set_option maxHeartbeats 8000000 in
theorem st_lasts {l : Launch} {D : va_G} {A : Nat → Prop} {x m z : Nat} {t : TT} {I : MI} {R : MR} {J : MI} {B : MR} {v : Int32} (h : Ok x m z t I R J B) : Pr l D A 4 0 0 3 mX11_lasts mX12_lasts [.int v] x m z t I R J B := by
  have hO := h
  obtain ⟨n, w, la, si, L, ns, sv, tn, co, ct, cc, ⟨hm, hz⟩, hX, hM, hP, hN, hW, hL, hC, hS, hK, hU, hT, hQ⟩ := h
  obtain ⟨hn3, hn1, hn2⟩ := hL.1
  have hw2 := hN.2.2
  have hinj := hL.2.1.2
  have hlt : ∀ l ∈ L, l < n := fun l hl => List.mem_range.mp (hC.2.1.mem_iff.mp hl)
  have hmem : ∀ l, l < n → l ∈ L := fun l hl => hC.2.1.mem_iff.mpr (List.mem_range.mpr hl)
  have hnd : L.Nodup := hC.2.1.nodup_iff.mpr List.nodup_range
  have hkf : ∀ l, l < n → J (m + 7) l = nI (si (la l) % 4) ∧ si (la l) % 4 < 4 := fun l hl => ⟨(hL.2.2.1 l hl).1.2.2.2, by omega⟩
  have hok : SiOk x R si (L.map la) := fun a ha => by
    obtain ⟨l, hl, rfl⟩ := List.mem_map.mp ha
    have g := hL.2.2.1 l (hlt l hl)
    exact ⟨g.1.1, g.1.2.1⟩
  have hd : ∀ i l, i < 60 → l < n → 0 ≤ (nI (w + i) - J (m + 8) l) / 4 := fun i l hi hl => by
    obtain ⟨d, hd, ed⟩ := (hL.2.2.1 l hl).2.2.1.2
    rw [ed, nI_sub (by omega), show (4 : Int32) = nI 4 from rfl, nI_d (by omega) (by omega)]
    exact nI_pos' (by omega)
  have m1 : ∀ k, k < 4 → 1 ≤ J (m + 2) k := fun k hk => (hP.2.2.1 k hk).2.1
  have m2 : ∀ p, p < 8 → 0 ≤ J (m + 1) p ∧ J (m + 1) p ≤ 1000 := fun p hp => (hP.1 p hp).2.rng rfl (by decide)
  have m3 : ∀ i, i < 32 → 0 ≤ J (m + 19) i := fun i hi => ((hS i hi).1.2.rng (M := 500) rfl (by decide)).1
  refine sem_X11_lasts hX hN.1 hok hC.1 (fun ho => ?_) (fun p hp ev => ?_)
  · exact ⟨_, rfl, hM.1, sem_X12_lasts (kf := fun l => si (la l) % 4) hM hn2 hn3 hN.2.1 m1 m2 m3 hkf hd (fun _ => ⟨rfl, hO⟩) (fun p hp ev => absurd ev (ho p hp))⟩
  · have k0 : ∀ f, f ≠ 312 → f ≠ 900 → ((L.map la).foldl (bt2 si p) (itr (bt1 x p) 0 4 I)) f = I f := fun f h1 h2 => (fold_keep (fun I a => bt2_keep h1 I a) _ _).trans (itr_keep (fun i I => bt1_keep h2 i I) 4 0 I)
    have z0 : ∀ l, l < n → ((L.map la).foldl (bt2 si p) (itr (bt1 x p) 0 4 I)) 312 (la l) = if si (la l) / 4 = p then J (m + 9) l else 0 := fun l hl => by
      rw [bt2_fold hinj L _ hnd hlt l (hmem l hl), itr_keep (fun i I => bt1_keep (by decide) i I) 4 0 I, (hL.2.2.1 l hl).2.2.2.2.2.2.1.1]
      exact ite_c (nI_si (by have := (hL.2.2.1 l hl).1.2.1; omega) (by omega))
    have z9 : ∀ k, k < 4 → ((L.map la).foldl (bt2 si p) (itr (bt1 x p) 0 4 I)) 900 (xSo x (4 * p + k) + 2) = J (m + 19) (4 * p + k) := fun k hk => by
      rw [fold_keep (fun I a => bt2_keep (by decide) I a), b1_sp 4 0 I (by omega) k hk, if_pos ⟨by omega, by omega⟩, (hS (4 * p + k) (by omega)).1.1]
    have z99 : ∀ b, (∀ s, b ≠ xSo x s + 2) → ((L.map la).foldl (bt2 si p) (itr (bt1 x p) 0 4 I)) 900 b = I 900 b := fun b hb => by
      rw [fold_keep (fun I a => bt2_keep (by decide) I a)]
      show (bt1 x p 3 (bt1 x p 2 (bt1 x p 1 (bt1 x p 0 I)))) 900 b = I 900 b
      unfold bt1
      rw [up2o (hb _), up2o (hb _), up2o (hb _), up2o (hb _)]
    generalize (L.map la).foldl (bt2 si p) (itr (bt1 x p) 0 4 I) = I0 at k0 z0 z9 z99
    obtain ⟨lk1, lk2⟩ := laX_keep (x := x) (p := p) (w := w) (si := si) (ch := L.map la) (J := J) 60 0 I0
    have gI : ∀ f, f ≠ 312 → f ≠ 900 → f ≠ 901 → (laX x p w si (L.map la) J 60 0 I0).2 f = I f := fun f h1 h2 h3 => (lk1 f h1 h2 h3).trans (k0 f h1 h2)
    have g9 : ∀ b, (∀ s, b ≠ xSo x s + 2) → (laX x p w si (L.map la) J 60 0 I0).2 900 b = I 900 b := fun b hb => (lk2 b hb).trans (z99 b hb)
    refine ⟨_, rfl, hM.1, sem_X12_lasts (kf := fun l => si (la l) % 4) hM (by rw [gI 1201 (by decide) (by decide) (by decide)]; exact hn2) hn3 (by rw [gI 1200 (by decide) (by decide) (by decide)]; exact hN.2.1) m1 m2 m3 hkf hd (fun ho => absurd ev (ho p hp)) (fun p' hp' ev' => ?_)⟩
    have ep : p' = p := nI_inj (ev'.symm.trans ev) (by omega) (by omega)
    subst ep
    obtain ⟨a1, a2⟩ := a0_sp (m := m) n 0 J
    obtain ⟨a3, a4⟩ := a1_sp (m := m) (p := p') 4 0 (itr (la0 m) 0 n J) (by omega)
    generalize itr (la0 m) 0 n J = Ja at a1 a2 a3 a4
    generalize itr (la1 m p') 0 4 Ja = J0 at a3 a4
    have j0 : ∀ b, b ≠ m + 23 → b ≠ m + 24 → b ≠ m + 25 → J0 b = J b := fun b b1 b2 b3 => by rw [a3 b b3, a1 b b1 b2]
    have tr : TR x m p' w n la si 0 I0 J0 := by
      refine ⟨fun l hl => ⟨?_, fun c => ⟨?_, Or.inl ?_⟩, fun c => ?_⟩, fun k hk => ?_⟩
      · rw [a3 _ (by omega), (a2 l (by omega) (by omega)).1]
        exact (hL.2.2.1 l hl).2.2.2.2.2.2.1.2
      · rw [z0 l hl, if_pos c, a3 _ (by omega), (a2 l (by omega) (by omega)).1]
      · rw [a3 _ (by omega), (a2 l (by omega) (by omega)).2, k0 307 (by decide) (by decide), (hL.2.2.1 l hl).2.2.2.2.2.2.2.1]
      · rw [z0 l hl, if_neg c]
      · rw [z9 k hk, a4, if_pos ⟨by omega, by omega⟩, a1 _ (by omega) (by omega)]
        exact ⟨rfl, (hS (4 * p' + k) (by omega)).1.2⟩
    have ts : TS x m n p' la si J I0 J0 := by
      refine ⟨fun l hl => ?_, ?_, fun k hk => ?_, fun k i hk hi => ?_⟩
      · rw [j0 _ (by omega) (by omega) (by omega), j0 _ (by omega) (by omega) (by omega), j0 _ (by omega) (by omega) (by omega), k0 302 (by decide) (by decide)]
        have g := hL.2.2.1 l hl
        exact ⟨g.1.2.1, g.1.2.2.1, g.1.2.2.2, g.2.2.1.1⟩
      · rw [j0 _ (by omega) (by omega) (by omega), k0 501 (by decide) (by decide)]
        exact hP.1 p' hp
      · rw [j0 _ (by omega) (by omega) (by omega), k0 102 (by decide) (by decide)]
        have g := hP.2.2.1 k hk
        exact ⟨g.1, g.2.2, g.2.1⟩
      · rw [j0 _ (by omega) (by omega) (by omega)]
        exact hP.2.2.2.1 k i hk hi
    refine ⟨by rw [la_eq (F8 := J (m + 8)) hp hw2 hinj hC.2.1 hC.2.2 60 0 I0 J0 rfl tr ts (j0 _ (by omega) (by omega) (by omega))], ?_⟩
    have gJ : ∀ b, b ≠ m + 23 → b ≠ m + 24 → b ≠ m + 25 → (laN m p' w n (fun l => si (la l) % 4) 60 0 J0).2 b = J b := fun b b1 b2 b3 => (laN_keep b1 b2 b3 60 0 J0).trans (j0 b b1 b2 b3)
    exact ⟨n, w, la, si, L, ns, sv, tn, co, ct, cc, ⟨hm, hz⟩, hX.mono (fun _ _ => rfl) (fun f a _ hf => by rcases hf with rfl | rfl | rfl <;> rw [gI _ (by decide) (by decide) (by decide)]) (fun _ _ _ _ => rfl) (fun _ _ _ _ _ _ => rfl), hM, hP.fr (fun a _ => by rw [gI 501 (by decide) (by decide) (by decide)]) (fun a _ => by rw [gI 502 (by decide) (by decide) (by decide)]) (fun a _ => by rw [gI 102 (by decide) (by decide) (by decide)]) (fun a ha => gJ a (by omega) (by omega) (by omega)), hN.fr (by rw [gI 1111 (by decide) (by decide) (by decide)]) (by rw [gI 1200 (by decide) (by decide) (by decide)]), hW.fr (Nat.le_refl _) rfl (fun _ _ => rfl) (gJ _ (by omega) (by omega) (by omega)) (fun a ha ht hb => gJ a (by omega) (by omega) (by omega)), hL.fr (Nat.le_refl _) (by rw [gI 401 (by decide) (by decide) (by decide)]) (by rw [gI 1201 (by decide) (by decide) (by decide)]) rfl (fun _ _ => rfl) (fun f a h1 h2 _ => by rw [gI f (by omega) (by omega) (by omega)]) (fun _ _ => rfl) (fun a h1 h2 => gJ a (by omega) (by omega) (by omega)), hC.fr hL.2.1 rfl (fun _ _ => rfl) (fun _ _ => rfl) (gJ _ (by omega) (by omega) (by omega)), hS.fr (fun s hs => g9 _ (fun s2 => xSo_12 _ _ _)) (fun s hs => by rw [gI 706 (by decide) (by decide) (by decide)]) (fun s hs => by rw [gI 705 (by decide) (by decide) (by decide)]) (fun a h1 h2 => gJ a (by omega) (by omega) (by omega)), hK.fr (by rw [gI 1112 (by decide) (by decide) (by decide)]) (by rw [gI 1113 (by decide) (by decide) (by decide)]) (by rw [gI 1114 (by decide) (by decide) (by decide)]) (by rw [gI 1202 (by decide) (by decide) (by decide)]) (by rw [gI 1203 (by decide) (by decide) (by decide)]) (gJ _ (by omega) (by omega) (by omega)) (gJ _ (by omega) (by omega) (by omega)), hU.fr (Nat.le_refl _) (by rw [gI 1115 (by decide) (by decide) (by decide)]) (by rw [gI 1204 (by decide) (by decide) (by decide)]) (fun _ _ => rfl) (fun _ _ => rfl) (fun _ _ => rfl) (fun a _ => by rw [gI 800 (by decide) (by decide) (by decide)]) (fun a _ => by rw [gI 802 (by decide) (by decide) (by decide)]) (gJ _ (by omega) (by omega) (by omega)) (gJ _ (by omega) (by omega) (by omega)) (gJ _ (by omega) (by omega) (by omega)), hT.fr (by rw [gI 1001 (by decide) (by decide) (by decide)]) (by rw [gI 1231 (by decide) (by decide) (by decide)]) (gJ _ (by omega) (by omega) (by omega)) (gJ _ (by omega) (by omega) (by omega)), hQ.fr hm (Nat.le_refl _) rfl (fun _ _ => rfl) (fun _ _ _ _ => rfl) (fun a _ _ => by rw [gI 4 (by decide) (by decide) (by decide)]) rfl (fun a ha ht hb => gJ a (by omega) (by omega) (by omega)) (fun a h1 h2 => gJ a (by omega) (by omega) (by omega))⟩
