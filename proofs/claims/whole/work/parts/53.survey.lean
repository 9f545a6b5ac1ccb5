-- SURVEY
theorem ite_c {p q : Prop} [Decidable p] [Decidable q] {α : Type} {a b : α} (h : p ↔ q) : (if p then a else b) = if q then a else b := by
  by_cases hp : p
  · rw [if_pos hp, if_pos (h.mp hp)]
  · rw [if_neg hp, if_neg (fun r => hp (h.mpr r))]
theorem la_itr {J : MI} {m : Nat} {i : Int32} {s : Nat} : ∀ (k t0 : Nat) (b : Bool), itr (laM J m i s) t0 k b = true ↔ (b = true ∧ ∀ j, t0 ≤ j → j < t0 + k → ¬ (J (m + 33) j = i ∧ J (m + 34) j = J (m + 34) s))
  | 0, t0, b => ⟨fun h => ⟨h, fun j h1 h2 => by omega⟩, fun h => h.1⟩
  | k + 1, t0, b => by
    rw [itr, la_itr k (t0 + 1)]
    unfold laM
    constructor
    · rintro ⟨h1, h2⟩
      simp only [Bool.and_eq_true, Bool.not_eq_true', Bool.and_eq_false_iff, decide_eq_false_iff_not] at h1
      refine ⟨h1.1, fun j hj1 hj2 => ?_⟩
      by_cases e : j = t0
      · subst e
        rintro ⟨q1, q2⟩
        rcases h1.2 with q | q
        · exact q q1
        · exact q q2
      · exact h2 j (by omega) (by omega)
    · rintro ⟨h1, h2⟩
      refine ⟨?_, fun j hj1 hj2 => h2 j (by omega) (by omega)⟩
      simp only [Bool.and_eq_true, Bool.not_eq_true', Bool.and_eq_false_iff, decide_eq_false_iff_not]
      refine ⟨h1, ?_⟩
      by_cases q : J (m + 33) t0 = i
      · exact Or.inr (fun q2 => h2 t0 (by omega) (by omega) ⟨q, q2⟩)
      · exact Or.inl q
def latB (J : MI) (m N s i : Nat) : Bool := itr (laM J m (nI s) i) (i + 1) (N - (i + 1)) (decide (J (m + 33) i = nI s))
theorem latB_iff {J : MI} {m N s i : Nat} (hi : i < N) : latB J m N s i = true ↔ lat J m N s i := by
  unfold latB lat
  rw [la_itr, decide_eq_true_eq]
  constructor
  · rintro ⟨h1, h2⟩
    exact ⟨hi, h1, fun j g1 g2 => h2 j (by omega) (by omega)⟩
  · rintro ⟨-, h1, h2⟩
    exact ⟨h1, fun j g1 g2 => h2 j (by omega) (by omega)⟩
theorem bal_sm {J : MI} {m N s : Nat} : itr (blM J m N (nI s)) 0 N 0 = sm (fun i => if latB J m N s i = true then J (m + 35) i else 0) (List.range N) := sm_itr0 (st := blM J m N (nI s)) (f := fun i => if latB J m N s i = true then J (m + 35) i else 0) (fun _ _ => rfl) N
theorem sm_one {P : Nat → Prop} [DecidablePred P] {f : Nat → Int32} {i0 : Nat} : ∀ l : List Nat, l.Nodup → i0 ∈ l → P i0 → (∀ i ∈ l, P i → i = i0) → sm (fun i => if P i then f i else 0) l = f i0
  | [], _, h, _, _ => by cases h
  | a :: l, hn, h, hp, hu => by
    rw [List.nodup_cons] at hn
    rw [sm]
    by_cases e : a = i0
    · subst e
      rw [if_pos hp, sm_zero l (fun i hi => if_neg (fun q => hn.1 (by rw [← hu i (List.mem_cons_of_mem _ hi) q]; exact hi))), Int32.add_zero]
    · rw [if_neg (fun q => e (hu a List.mem_cons_self q)), Int32.zero_add]
      rcases List.mem_cons.mp h with q | q
      · exact absurd q.symm e
      · exact sm_one l hn.2 q hp (fun i hi => hu i (List.mem_cons_of_mem _ hi))
theorem sm_up {f : Nat → Int32} {a : Nat} {X : Int32} : ∀ l : List Nat, l.Nodup → a ∈ l → sm (va_up f a X) l + f a = sm f l + X
  | [], _, h => by cases h
  | b :: l, hn, h => by
    rw [List.nodup_cons] at hn
    rw [sm, sm]
    by_cases e : b = a
    · subst e
      rw [va_up_self, sm_congr (f := va_up f b X) (g := f) l (fun c hc => va_up_ne _ _ (fun q => hn.1 (by rw [← q]; exact hc)))]
      rw [Int32.add_assoc, Int32.add_comm (sm f l), Int32.add_comm X, Int32.add_assoc]
    · rw [va_up_ne _ _ e, Int32.add_assoc, Int32.add_assoc]
      rcases List.mem_cons.mp h with q | q
      · exact absurd q.symm e
      · rw [sm_up l hn.2 q]
section SV
variable {J J' : MI} {m N s0 : Nat} {v dd : Int32}
/-- the log has one entry more -/
def Lg (J J' : MI) (m N s0 : Nat) (v dd : Int32) : Prop := (∀ i, i < N → J' (m + 33) i = J (m + 33) i ∧ J' (m + 34) i = J (m + 34) i ∧ J' (m + 35) i = J (m + 35) i) ∧ J' (m + 33) N = nI s0 ∧ J' (m + 34) N = v ∧ J' (m + 35) N = dd
theorem Lg.latt {s i : Nat} (h : Lg J J' m N s0 v dd) (hi : i < N) (hs : s < 32) (hs0 : s0 < 32) : lat J' m (N + 1) s i ↔ (lat J m N s i ∧ ¬ (s = s0 ∧ J (m + 34) i = v)) := by
  unfold lat
  obtain ⟨g, g1, g2, -⟩ := h
  rw [(g i hi).1, (g i hi).2.1]
  constructor
  · rintro ⟨-, h1, h2⟩
    refine ⟨⟨hi, h1, fun j q1 q2 => ?_⟩, ?_⟩
    · have := h2 j q1 (by omega)
      rw [(g j q2).1, (g j q2).2.1] at this
      exact this
    · rintro ⟨rfl, q⟩
      exact h2 N hi (by omega) ⟨g1, by rw [g2, q]⟩
  · rintro ⟨⟨-, h1, h2⟩, h3⟩
    refine ⟨by omega, h1, fun j q1 q2 => ?_⟩
    by_cases e : j = N
    · subst e
      rintro ⟨r1, r2⟩
      rw [g1] at r1
      rw [g2] at r2
      exact h3 ⟨(nI_inj r1 (by omega) (by omega)).symm, r2.symm⟩
    · rw [(g j (by omega)).1, (g j (by omega)).2.1]
      exact h2 j q1 (by omega)
theorem Lg.new (h : Lg J J' m N s0 v dd) : lat J' m (N + 1) s0 N := ⟨by omega, h.2.1, fun j h1 h2 => by omega⟩
theorem Lg.bal {s : Nat} (h : Lg J J' m N s0 v dd) (hs : s < 32) (hs0 : s0 < 32) : itr (blM J' m (N + 1) (nI s)) 0 (N + 1) 0 = sm (fun i => if latB J m N s i = true ∧ ¬ (s = s0 ∧ J (m + 34) i = v) then J (m + 35) i else 0) (List.range N) + (if s = s0 then dd else 0) := by
  rw [bal_sm, sm_succ]
  congr 1
  · refine sm_congr _ (fun i hi => ?_)
    have hi := List.mem_range.mp hi
    have e : (latB J' m (N + 1) s i = true) = (latB J m N s i = true ∧ ¬ (s = s0 ∧ J (m + 34) i = v)) := by rw [latB_iff (by omega), latB_iff hi, h.latt hi hs hs0]
    show (if latB J' m (N + 1) s i = true then J' (m + 35) i else 0) = _
    rw [(h.1 i hi).2.2]
    exact ite_c (iff_of_eq e)
  · show (if latB J' m (N + 1) s N = true then J' (m + 35) N else 0) = _
    rw [h.2.2.2]
    have e : (latB J' m (N + 1) s N = true) = (s = s0) := by
      rw [latB_iff (by omega)]
      refine propext ⟨fun q => (nI_inj (q.2.1.symm.trans h.2.1) (by omega) (by omega)), fun q => by rw [q]; exact h.new⟩
    exact ite_c (iff_of_eq e)
theorem Lg.other {s : Nat} (h : Lg J J' m N s0 v dd) (hs : s < 32) (hs0 : s0 < 32) (hne : s ≠ s0) : itr (blM J' m (N + 1) (nI s)) 0 (N + 1) 0 = itr (blM J m N (nI s)) 0 N 0 := by
  rw [h.bal hs hs0, if_neg hne, Int32.add_zero, bal_sm]
  refine sm_congr _ (fun i hi => ?_)
  have e : (latB J m N s i = true ∧ ¬ (s = s0 ∧ J (m + 34) i = v)) = (latB J m N s i = true) := propext ⟨fun q => q.1, fun q => ⟨q, fun r => hne r.1⟩⟩
  exact ite_c (iff_of_eq e)
/-- a first entry for this week -/
theorem Lg.first (h : Lg J J' m N s0 v dd) (hs0 : s0 < 32) (hno : ∀ i, i < N → J (m + 33) i = nI s0 → J (m + 34) i ≠ v) : itr (blM J' m (N + 1) (nI s0)) 0 (N + 1) 0 = itr (blM J m N (nI s0)) 0 N 0 + dd := by
  rw [h.bal hs0 hs0, if_pos rfl, bal_sm]
  congr 1
  refine sm_congr _ (fun i hi => ?_)
  have hi := List.mem_range.mp hi
  have e : (latB J m N s0 i = true ∧ ¬ (s0 = s0 ∧ J (m + 34) i = v)) = (latB J m N s0 i = true) := propext ⟨fun q => q.1, fun q => ⟨q, fun r => hno i hi ((latB_iff hi).mp q).2.1 r.2⟩⟩
  exact ite_c (iff_of_eq e)
/-- one more for a week that had one -/
theorem Lg.again {i0 : Nat} (h : Lg J J' m N s0 v dd) (hs0 : s0 < 32) (h0 : lat J m N s0 i0) (hv : J (m + 34) i0 = v) : itr (blM J' m (N + 1) (nI s0)) 0 (N + 1) 0 + J (m + 35) i0 = itr (blM J m N (nI s0)) 0 N 0 + dd := by
  have hi0 : i0 < N := h0.1
  have e1 : itr (blM J m N (nI s0)) 0 N 0 = sm (fun i => if latB J m N s0 i = true ∧ ¬ (s0 = s0 ∧ J (m + 34) i = v) then J (m + 35) i else 0) (List.range N) + J (m + 35) i0 := by
    rw [bal_sm, ← sm_one (P := fun i => latB J m N s0 i = true ∧ J (m + 34) i = v) (f := J (m + 35)) (List.range N) List.nodup_range (List.mem_range.mpr hi0) ⟨(latB_iff hi0).mpr h0, hv⟩ (fun i hi q => ?_), ← sm_add]
    · refine sm_congr _ (fun i hi => ?_)
      by_cases q1 : latB J m N s0 i = true <;> by_cases q2 : J (m + 34) i = v <;> simp [q1, q2]
    · have hi := List.mem_range.mp hi
      have l1 := (latB_iff hi).mp q.1
      rcases Nat.lt_trichotomy i i0 with g | g | g
      · exact absurd ⟨h0.2.1, by rw [hv, q.2]⟩ (l1.2.2 i0 g hi0)
      · exact g
      · exact absurd ⟨l1.2.1, by rw [hv, q.2]⟩ (h0.2.2 i g hi)
  rw [h.bal hs0 hs0, if_pos rfl, e1, Int32.add_assoc, Int32.add_assoc, Int32.add_comm dd]
end SV
theorem i_cancel {a b c : Int32} (h : a + c = b + c) : a = b := by
  have := congrArg (fun q => q - c) h
  simpa using this
section SU
variable {x m ns z z' : Nat} {t t' : TT} {I I' : MI} {R R' : MR} {J J' : MI} {sv : Nat → List Nat} {s0 : Nat} {v dd : Int32}
theorem SuR.again {a : Nat} (h : SuR x m ns z t I R J sv) (hs0 : s0 < 32) (hns : ns < 200) (ha : a ∈ sv s0) (hv : I 800 a = v) (hg : Lg J J' m ns s0 v dd) (e5 : I' 1115 x = nI (ns + 1)) (e4 : I' 1204 m = nI (ns + 1)) (e0 : I' 800 = I 800) (e2 : I' 802 = va_up (I 802) a dd) : SuR x m (ns + 1) z t I' R J' sv := by
  refine ⟨⟨e5, e4, by omega⟩, fun s hs => ?_⟩
  obtain ⟨a1, a2, a3, a3', a4, a5, a6, a7⟩ := h.2 s hs
  rw [e0]
  have hna : s ≠ s0 → ∀ b ∈ sv s, b ≠ a := fun hne b hb e => (h.2 s hs).2.2.2.2.2.2.2 s0 hs0 hne b hb (by rw [e]; exact ha)
  refine ⟨a1, a2, a3, a3', fun b hb => ?_, fun i hi e => ?_, ?_, a7⟩
  · obtain ⟨i, h1, h2, h3⟩ := a4 b hb
    by_cases eb : b = a
    · by_cases es : s = s0
      · subst es
        subst eb
        exact ⟨ns, hg.new, by rw [hg.2.2.1, hv], by rw [e2, va_up_self, hg.2.2.2]⟩
      · exact absurd eb (hna es b hb)
    · refine ⟨i, (hg.latt h1.1 hs hs0).mpr ⟨h1, ?_⟩, by rw [(hg.1 i h1.1).2.1]; exact h2, by rw [e2, va_up_ne _ _ eb, (hg.1 i h1.1).2.2]; exact h3⟩
      rintro ⟨rfl, q⟩
      exact eb (a3' b hb a ha (by rw [← h2, q, hv]))
  · by_cases ei : i = ns
    · subst ei
      rw [hg.2.1] at e
      have es : s = s0 := (nI_inj e (by omega) (by omega)).symm
      subst es
      exact ⟨a, ha, by rw [hv, hg.2.2.1]⟩
    · rw [(hg.1 i (by omega)).1] at e
      obtain ⟨b, hb, q⟩ := a5 i (by omega) e
      exact ⟨b, hb, by rw [(hg.1 i (by omega)).2.1]; exact q⟩
  · by_cases es : s = s0
    · subst es
      obtain ⟨i0, h1, h2, h3⟩ := a4 a ha
      have q1 := hg.again hs0 h1 (h2.trans hv)
      rw [h3, ← a6, ← sm_up (X := dd) (sv s) a3 ha] at q1
      rw [e2]
      exact (i_cancel q1).symm
    · rw [hg.other hs hs0 es, ← a6, e2]
      exact sm_congr _ (fun b hb => va_up_ne _ _ (hna es b hb))
theorem SuR.first (h : SuR x m ns z t I R J sv) (hz : m + 36 ≤ z) (hx : m = x + 141) (hs0 : s0 < 32) (hns : ns < 200) (hno : ∀ a ∈ sv s0, I 800 a ≠ v) (hg : Lg J J' m ns s0 v dd) (e5 : I' 1115 x = nI (ns + 1)) (e4 : I' 1204 m = nI (ns + 1)) (i0 : ∀ a, a < z → I' 800 a = I 800 a) (i2 : ∀ a, a < z → I' 802 a = I 802 a) (z0 : I' 800 z = v) (z2 : I' 802 z = dd) (et : t' = va_up t z (9, 0)) (r8 : ∀ a, a < z → R' 801 a = R 801 a) (rz : R' 801 z = R 707 (xSo x s0)) (r7 : ∀ s, s < 32 → s ≠ s0 → R' 707 (xSo x s) = R 707 (xSo x s)) (r70 : R' 707 (xSo x s0) = some z) : SuR x m (ns + 1) (z + 1) t' I' R' J' (va_up sv s0 (z :: sv s0)) := by
  subst et
  refine ⟨⟨e5, e4, by omega⟩, fun s hs => ?_⟩
  obtain ⟨a1, a2, a3, a3', a4, a5, a6, a7⟩ := h.2 s hs
  have hlt : ∀ s, s < 32 → ∀ a ∈ sv s, a < z := fun s hs a ha => ((h.2 s hs).2.1 a ha).2.1
  have hlog : ∀ i, i < ns → J (m + 33) i = nI s0 → J (m + 34) i ≠ v := fun i hi e q => by
    obtain ⟨b, hb, r⟩ := (h.2 s0 hs0).2.2.2.2.2.1 i hi e
    exact hno b hb (r.trans q)
  by_cases es : s = s0
  · subst es
    rw [va_up_self]
    refine ⟨⟨r70, by rw [va_up_self], ?_⟩, fun b hb => ?_, ?_, fun b hb c hc e => ?_, fun b hb => ?_, fun i hi e => ?_, ?_, fun s' hs' hne b hb => ?_⟩
    · rw [rz]
      exact SChain.fr _ _ a1 (fun a ha => ⟨va_up_ne _ _ (by have := hlt s hs a ha; omega), r8 a (hlt s hs a ha)⟩)
    · rcases List.mem_cons.mp hb with rfl | hb
      · exact ⟨hz, by omega, by rw [va_up_self]⟩
      · have := a2 b hb
        exact ⟨this.1, by omega, by rw [va_up_ne _ _ (by omega)]; exact this.2.2⟩
    · rw [List.nodup_cons]
      exact ⟨fun q => by have := hlt s hs z q; omega, a3⟩
    · rcases List.mem_cons.mp hb with rfl | hb1
      · rcases List.mem_cons.mp hc with rfl | hc1
        · rfl
        · rw [z0, i0 c (hlt s hs c hc1)] at e
          exact absurd e.symm (hno c hc1)
      · rcases List.mem_cons.mp hc with rfl | hc1
        · rw [z0, i0 b (hlt s hs b hb1)] at e
          exact absurd e (hno b hb1)
        · rw [i0 b (hlt s hs b hb1), i0 c (hlt s hs c hc1)] at e
          exact a3' b hb1 c hc1 e
    · rcases List.mem_cons.mp hb with rfl | hb
      · exact ⟨ns, hg.new, by rw [hg.2.2.1, z0], by rw [z2, hg.2.2.2]⟩
      · obtain ⟨i, h1, h2, h3⟩ := a4 b hb
        exact ⟨i, (hg.latt h1.1 hs hs0).mpr ⟨h1, fun q => hlog i h1.1 h1.2.1 q.2⟩, by rw [(hg.1 i h1.1).2.1, i0 b (hlt s hs b hb)]; exact h2, by rw [(hg.1 i h1.1).2.2, i2 b (hlt s hs b hb)]; exact h3⟩
    · by_cases ei : i = ns
      · subst ei
        exact ⟨z, List.mem_cons_self, by rw [z0, hg.2.2.1]⟩
      · rw [(hg.1 i (by omega)).1] at e
        obtain ⟨b, hb, q⟩ := a5 i (by omega) e
        exact ⟨b, List.mem_cons_of_mem _ hb, by rw [i0 b (hlt s hs b hb), (hg.1 i (by omega)).2.1]; exact q⟩
    · rw [sm, z2, hg.first hs0 hlog, ← a6, Int32.add_comm]
      congr 1
      exact sm_congr _ (fun b hb => i2 b (hlt s hs b hb))
    · rw [va_up_ne _ _ (fun q => hne q.symm)]
      rcases List.mem_cons.mp hb with rfl | hb
      · exact fun q => by have := hlt s' hs' b q; omega
      · exact a7 s' hs' hne b hb
  · rw [va_up_ne _ _ es]
    refine ⟨?_, fun b hb => ?_, a3, fun b hb c hc e => ?_, fun b hb => ?_, fun i hi e => ?_, ?_, fun s' hs' hne b hb => ?_⟩
    · rw [r7 s hs es]
      exact SChain.fr _ _ a1 (fun a ha => ⟨va_up_ne _ _ (by have := hlt s hs a ha; omega), r8 a (hlt s hs a ha)⟩)
    · have := a2 b hb
      exact ⟨this.1, by omega, by rw [va_up_ne _ _ (by omega)]; exact this.2.2⟩
    · rw [i0 b (hlt s hs b hb), i0 c (hlt s hs c hc)] at e
      exact a3' b hb c hc e
    · obtain ⟨i, h1, h2, h3⟩ := a4 b hb
      exact ⟨i, (hg.latt h1.1 hs hs0).mpr ⟨h1, fun q => es q.1⟩, by rw [(hg.1 i h1.1).2.1, i0 b (hlt s hs b hb)]; exact h2, by rw [(hg.1 i h1.1).2.2, i2 b (hlt s hs b hb)]; exact h3⟩
    · by_cases ei : i = ns
      · subst ei
        rw [hg.2.1] at e
        exact absurd (nI_inj e (by omega) (by omega)).symm es
      · rw [(hg.1 i (by omega)).1] at e
        obtain ⟨b, hb, q⟩ := a5 i (by omega) e
        exact ⟨b, hb, by rw [i0 b (hlt s hs b hb), (hg.1 i (by omega)).2.1]; exact q⟩
    · rw [hg.other hs hs0 es, ← a6]
      exact sm_congr _ (fun b hb => i2 b (hlt s hs b hb))
    · by_cases e' : s' = s0
      · subst e'
        rw [va_up_self]
        intro q
        rcases List.mem_cons.mp q with q | q
        · have := hlt s hs b hb; omega
        · exact a7 s' hs' hne b hb q
      · rw [va_up_ne _ _ e']
        exact a7 s' hs' hne b hb
end SU
set_option maxHeartbeats 4000000 in
theorem st_survey {l : Launch} {D : va_G} {A : Nat → Prop} {x m z : Nat} {t : TT} {I : MI} {R : MR} {J : MI} {B : MR} {p k v d : Int32} (h : Ok x m z t I R J B) (hA : ∀ q, z ≤ q → A q) : Pr l D A 3 1 3 2 mX11_survey mX12_survey [.int p, .int k, .int v, .int d] x m z t I R J B := by
  have hO := h
  obtain ⟨n, w, la, si, L, ns, sv, tn, co, ct, cc, ⟨hm, hz⟩, hX, hM, hP, hN, hW, hL, hC, hS, hK, hU, hT, hQ⟩ := h
  have hw2 := hN.2.2
  have hns2 := hU.1.2.2
  have vin : ∀ u, u ≤ w → v = nI u → 0 ≤ v ∧ v ≤ nI w := fun u hu e => by rw [e]; exact ⟨nI_pos' (by omega), nI_le hu (by omega)⟩
  refine sem_X11_survey (sv := sv) hX hA hN.1 hN.2.2 (rows_of hW) (fun i hi => (hU.2 i hi).1) hU.1.1 hns2 (fun ho => ?_) (fun i j u r hi hj e1 e2 hu e3 hr hd hlt a ha hav => ?_) (fun i j u r hi hj e1 e2 hu e3 hr hd hlt hno => ?_)
  · exact ⟨_, rfl, hM.1, sem_X12_survey hM hN.2.1 hN.2.2 hU.1.2.1 hns2 (fun _ => ⟨rfl, hO⟩) (fun i j u hi hj e1 e2 hu e3 hd hlt => absurd ⟨pk_ok hi hj e1 e2, vin u hu e3, hd, hlt⟩ ho)⟩
  · refine ⟨_, rfl, hM.1, sem_X12_survey hM ((up2n (by decide)).trans ((up2n (by decide)).trans hN.2.1)) hN.2.2 ((up2n (by decide)).trans ((up2n (by decide)).trans hU.1.2.1)) hns2 (fun ho => absurd ⟨pk_ok hi hj e1 e2, vin u hu e3, hd, hlt⟩ ho) (fun i' j' u' hi' hj' e1' e2' hu' e3' hd' hlt' => ?_)⟩
    have ei : i' = i := nI_inj (e1'.symm.trans e1) (by omega) (by omega)
    have ej : j' = j := nI_inj (e2'.symm.trans e2) (by omega) (by omega)
    have eu : u' = u := nI_inj (e3'.symm.trans e3) (by omega) (by omega)
    subst ei
    subst ej
    subst eu
    rw [row_eq hW hu hr (show 4 * i' + j' < 32 by omega), Nat.add_assoc]
    refine ⟨rfl, ?_⟩
    generalize hdd : d - J (m + 22) (32 * u' + (4 * i' + j')) = dd
    have hg : Lg J (up2 (up2 (up2 J (m + 33) ns (nI (4 * i' + j'))) (m + 34) ns v) (m + 35) ns dd) m ns (4 * i' + j') v dd := ⟨fun q hq => ⟨by rw [up2o (by omega), up2o (by omega), up2o (by omega)], by rw [up2o (by omega), up2o (by omega), up2o (by omega)], by rw [up2o (by omega), up2o (by omega), up2o (by omega)]⟩, by rw [up2n (by omega), up2n (by omega), up2s], by rw [up2n (by omega), up2s], up2s⟩
    have hU2 := hU.again (I' := up2 (up2 (up2 I 1115 x (nI (ns + 1))) 802 a dd) 1204 m (nI (ns + 1))) (by omega) hlt ha hav hg (by rw [up2n (by decide), up2n (by decide), up2s]) up2s rfl (by rw [up2_ne _ _ _ (by decide), up2_self, up2_ne _ _ _ (by decide)])
    exact ⟨n, w, la, si, L, ns + 1, sv, tn, co, ct, cc, ⟨hm, hz⟩, hX.mono (fun _ _ => rfl) (fun f a _ hf => by rcases hf with rfl | rfl | rfl <;> rfl) (fun _ _ _ _ => rfl) (fun _ _ _ _ _ _ => rfl), hM, hP.fr (fun _ _ => rfl) (fun _ _ => rfl) (fun _ _ => rfl) (fun a ha => (by simp (disch := omega) only [up2_ne, va_up_ne])), hN.fr rfl rfl, hW.fr (Nat.le_refl _) rfl (fun _ _ => rfl) (by simp (disch := omega) only [up2_ne, va_up_ne]) (fun a ha ht hb => by simp (disch := omega) only [up2_ne, va_up_ne]), hL.fr (Nat.le_refl _) rfl rfl rfl (fun _ _ => rfl) (fun f a h1 h2 _ => by simp (disch := omega) only [up2n]) (fun _ _ => rfl) (fun a h1 h2 => (by simp (disch := omega) only [up2_ne, va_up_ne])), hC.fr hL.2.1 rfl (fun _ _ => rfl) (fun _ _ => rfl) (by simp (disch := omega) only [up2_ne, va_up_ne]), hS.fr (fun _ _ => rfl) (fun _ _ => rfl) (fun _ _ => rfl) (fun a h1 h2 => (by simp (disch := omega) only [up2_ne, va_up_ne])), hK.fr rfl rfl rfl rfl rfl (by simp (disch := omega) only [up2_ne, va_up_ne]) (by simp (disch := omega) only [up2_ne, va_up_ne]), hU2, hT.fr rfl rfl (by simp (disch := omega) only [up2_ne, va_up_ne]) (by simp (disch := omega) only [up2_ne, va_up_ne]), hQ.fr hm (Nat.le_refl _) rfl (fun _ _ => rfl) (fun _ _ _ _ => rfl) (fun _ _ _ => rfl) rfl (fun a ha ht hb => by simp (disch := omega) only [up2_ne, va_up_ne]) (fun a h1 h2 => (by simp (disch := omega) only [up2_ne, va_up_ne]))⟩
  · have hs0 : 4 * i + j < 32 := by omega
    have hxs := xSo_ltx (x := x) hs0
    generalize ht3 : va_up t z (9, 0) = t3
    generalize hR3 : up2 (up2 (zR R z) 801 z (R 707 (xSo x (4 * i + j)))) 707 (xSo x (4 * i + j)) (some z) = R3
    have gt : ∀ a, a < z → t3 a = t a := fun a ha => by rw [← ht3]; exact va_up_ne _ _ (by omega)
    have gR : ∀ f a, a < z → f ≠ 707 → R3 f a = R f a := fun f a ha hf => by rw [← hR3, up2n hf, up2o (by omega), zR_ne _ _ (by omega)]
    have hM3 : MSt m t3 R3 := hM.mono (fun a h1 h2 => gt a (by omega)) (fun f hf => gR f m (by omega) (by omega))
    generalize hdd : d - J r (4 * i + j) = dd
    have em : ∀ f, f ≠ 1115 → f ≠ 800 → f ≠ 802 → (up2 (up2 (zI (up2 I 1115 x (nI (ns + 1))) z) 800 z v) 802 z dd) f m = I f m := fun f h1 h2 h3 => by rw [up2n h3, up2n h2, zI_ne _ _ (by omega), up2n h1]
    refine ⟨_, rfl, hM3.1, sem_X12_survey hM3 ((em 1200 (by decide) (by decide) (by decide)).trans hN.2.1) hN.2.2 ((em 1204 (by decide) (by decide) (by decide)).trans hU.1.2.1) hns2 (fun ho => absurd ⟨pk_ok hi hj e1 e2, vin u hu e3, hd, hlt⟩ ho) (fun i' j' u' hi' hj' e1' e2' hu' e3' hd' hlt' => ?_)⟩
    have ei : i' = i := nI_inj (e1'.symm.trans e1) (by omega) (by omega)
    have ej : j' = j := nI_inj (e2'.symm.trans e2) (by omega) (by omega)
    have eu : u' = u := nI_inj (e3'.symm.trans e3) (by omega) (by omega)
    subst ei
    subst ej
    subst eu
    rw [row_eq hW hu hr hs0] at hdd
    rw [Nat.add_assoc, hdd]
    refine ⟨rfl, ?_⟩
    have hg : Lg J (up2 (up2 (up2 J (m + 33) ns (nI (4 * i' + j'))) (m + 34) ns v) (m + 35) ns dd) m ns (4 * i' + j') v dd := ⟨fun q hq => ⟨by rw [up2o (by omega), up2o (by omega), up2o (by omega)], by rw [up2o (by omega), up2o (by omega), up2o (by omega)], by rw [up2o (by omega), up2o (by omega), up2o (by omega)]⟩, by rw [up2n (by omega), up2n (by omega), up2s], by rw [up2n (by omega), up2s], up2s⟩
    generalize hJF : up2 (up2 (up2 J (m + 33) ns (nI (4 * i' + j'))) (m + 34) ns v) (m + 35) ns dd = JF at hg
    generalize hIF : up2 (up2 (up2 (zI (up2 I 1115 x (nI (ns + 1))) z) 800 z v) 802 z dd) 1204 m (nI (ns + 1)) = IF
    have gJ : ∀ a, ¬ (m + 33 ≤ a ∧ a ≤ m + 35) → JF a = J a := fun a ha => by rw [← hJF]; simp (disch := omega) only [up2_ne]
    have gI : ∀ f a, a < z → (!(f == 1115 || f == 1204)) = true → IF f a = I f a := fun f a ha hf => by
      simp only [Bool.not_eq_true', Bool.or_eq_false_iff, beq_eq_false_iff_ne] at hf
      rw [← hIF, up2n (by omega), up2o (by omega), up2o (by omega), zI_ne _ _ (by omega), up2n (by omega)]
    have hU2 : SuR x m (ns + 1) (z + 1) t3 IF R3 JF (va_up sv (4 * i' + j') (z :: sv (4 * i' + j'))) := hU.first hz hm hs0 hlt hno hg (by rw [← hIF, up2n (by decide), up2n (by decide), up2n (by decide), zI_ne _ _ (by omega), up2s]) (by rw [← hIF, up2s]) (fun a ha => gI 800 a ha (by decide)) (fun a ha => gI 802 a ha (by decide)) (by rw [← hIF, up2n (by decide), up2n (by decide), up2s]) (by rw [← hIF, up2n (by decide), up2s]) ht3.symm (fun a ha => gR 801 a ha (by decide)) (by rw [← hR3, up2n (by decide), up2s]) (fun s hs hne => by have := xSo_ltx (x := x) hs; rw [← hR3, up2o (fun q => hne (xSo_inj q)), up2o (by omega), zR_ne _ _ (by omega)]) (by rw [← hR3, up2s])
    exact ⟨n, w, la, si, L, ns + 1, va_up sv (4 * i' + j') (z :: sv (4 * i' + j')), tn, co, ct, cc, ⟨hm, by omega⟩, hX.mono (fun a ha => gt a (by omega)) (fun f a ha hf => by rcases hf with rfl | rfl | rfl <;> exact gI _ a (by omega) (by decide)) (fun f a ha hf => gR f a (by omega) (fun e => by subst e; cases hf)) (fun _ _ _ _ _ _ => rfl), hM3, hP.fr (fun a ha => gI 501 a (by omega) (by decide)) (fun a ha => gI 502 a (by omega) (by decide)) (fun a ha => gI 102 a (by omega) (by decide)) (fun a ha => gJ a (by omega)), hN.fr (gI 1111 x (by omega) (by decide)) (gI 1200 m (by omega) (by decide)), hW.fr (by omega) rfl gt (gJ _ (by omega)) (fun a ha ht hb => gJ a (by omega)), hL.fr (by omega) (gI 401 _ (by omega) (by decide)) (gI 1201 m (by omega) (by decide)) rfl gt (fun f a h1 h2 ha => gI f a ha (by simp only [Bool.not_eq_true', Bool.or_eq_false_iff, beq_eq_false_iff_ne]; omega)) (fun a ha => gR 300 a ha (by decide)) (fun a h1 h2 => gJ a (by omega)), hC.fr hL.2.1 (gR 402 _ (by omega) (by decide)) gt (fun a ha => gR 313 a ha (by decide)) (gJ _ (by omega)), hS.fr (fun s hs => gI 900 _ (by have := xSo_ltx (x := x) hs; omega) (by decide)) (fun s hs => gI 706 _ (by have := xSo_ltx (x := x) hs; omega) (by decide)) (fun s hs => gI 705 _ (by have := xSo_ltx (x := x) hs; omega) (by decide)) (fun a h1 h2 => gJ a (by omega)), hK.fr (gI 1112 x (by omega) (by decide)) (gI 1113 x (by omega) (by decide)) (gI 1114 x (by omega) (by decide)) (gI 1202 m (by omega) (by decide)) (gI 1203 m (by omega) (by decide)) (gJ _ (by omega)) (gJ _ (by omega)), hU2, hT.fr (gI 1001 _ (by omega) (by decide)) (gI 1231 m (by omega) (by decide)) (gJ _ (by omega)) (gJ _ (by omega)), hQ.fr hm (by omega) (gR 1109 x (by omega) (by decide)) gt (fun f a hf ha => gR f a ha (by omega)) (fun a ha _ => gI 4 a ha (by decide)) rfl (fun a ha ht hb => gJ a (by omega)) (fun a h1 h2 => gJ a (by omega))⟩
