-- WHAT HOLDS BETWEEN THE CALLS: what it does not look at may change
theorem MSt.mono {m : Nat} {t t' : TT} {R R' : MR} (h : MSt m t R) (ht : ∀ a, m ≤ a → a < m + 36 → t' a = t a) (hR : ∀ f, 1200 ≤ f → R' f m = R f m) : MSt m t' R' := by
  unfold MSt at h ⊢
  rw [ht m (by omega) (by omega), hR 1205 (by decide), ht (m + 1) (by omega) (by omega), hR 1206 (by decide), ht (m + 2) (by omega) (by omega), hR 1207 (by decide), ht (m + 3) (by omega) (by omega), hR 1208 (by decide), ht (m + 4) (by omega) (by omega), hR 1209 (by decide), ht (m + 5) (by omega) (by omega), hR 1210 (by decide), ht (m + 6) (by omega) (by omega), hR 1211 (by decide), ht (m + 7) (by omega) (by omega), hR 1212 (by decide), ht (m + 8) (by omega) (by omega), hR 1213 (by decide), ht (m + 9) (by omega) (by omega), hR 1214 (by decide), ht (m + 10) (by omega) (by omega), hR 1215 (by decide), ht (m + 11) (by omega) (by omega), hR 1216 (by decide), ht (m + 12) (by omega) (by omega), hR 1217 (by decide), ht (m + 13) (by omega) (by omega), hR 1218 (by decide), ht (m + 14) (by omega) (by omega), hR 1219 (by decide), ht (m + 15) (by omega) (by omega), hR 1220 (by decide), ht (m + 16) (by omega) (by omega), hR 1221 (by decide), ht (m + 17) (by omega) (by omega), hR 1222 (by decide), ht (m + 18) (by omega) (by omega), hR 1223 (by decide), ht (m + 19) (by omega) (by omega), hR 1224 (by decide), ht (m + 20) (by omega) (by omega), hR 1225 (by decide), ht (m + 21) (by omega) (by omega), hR 1226 (by decide), ht (m + 22) (by omega) (by omega), hR 1227 (by decide), ht (m + 23) (by omega) (by omega), hR 1228 (by decide), ht (m + 24) (by omega) (by omega), hR 1229 (by decide), ht (m + 25) (by omega) (by omega), hR 1230 (by decide), ht (m + 26) (by omega) (by omega), hR 1233 (by decide), ht (m + 27) (by omega) (by omega), hR 1234 (by decide), ht (m + 28) (by omega) (by omega), hR 1235 (by decide), ht (m + 29) (by omega) (by omega), hR 1236 (by decide), ht (m + 30) (by omega) (by omega), hR 1237 (by decide), ht (m + 31) (by omega) (by omega), hR 1239 (by decide), ht (m + 32) (by omega) (by omega), hR 1240 (by decide), ht (m + 33) (by omega) (by omega), hR 1241 (by decide), ht (m + 34) (by omega) (by omega), hR 1242 (by decide), ht (m + 35) (by omega) (by omega)]
  exact h
section FR
variable {x m w n z z' ns tn co : Nat} {t t' : TT} {I I' : MI} {R R' : MR} {J J' : MI} {B B' : MR} {la si ct : Nat → Nat} {L : List Nat} {sv : Nat → List Nat} {cc : Nat → List CC}
theorem xPl_lt {p : Nat} (h : p < 8) : xPl x p < x + 141 := by unfold xPl; omega
theorem xKd_lt {k : Nat} (h : k < 4) : xKd x k + 1 < x + 23 ∧ x + 15 ≤ xKd x k := by unfold xKd; omega
theorem xSo_ltx {s : Nat} (h : s < 32) : xSo x s + 2 < x + 127 ∧ x + 24 ≤ xSo x s := by unfold xSo; omega
theorem PmR.fr (h : PmR x m I J) (e1 : ∀ a, a < x + 141 → I' 501 a = I 501 a) (e2 : ∀ a, a < x + 141 → I' 502 a = I 502 a) (e3 : ∀ a, a < x + 141 → I' 102 a = I 102 a) (eJ : ∀ a, (x + 7 ≤ a ∧ a < x + 23) ∨ (m < a ∧ a < m + 6) → J' a = J a) : PmR x m I' J' := by
  obtain ⟨h1, h2, h3, h4, h5⟩ := h
  refine ⟨fun p hp => ?_, fun p hp => ?_, fun k hk => ?_, fun k i hk hi => ?_, fun p q hp hq => ?_⟩
  · rw [e1 _ (xPl_lt hp), eJ (m + 1) (by omega)]; exact h1 p hp
  · rw [e2 _ (xPl_lt hp), eJ (m + 5) (by omega)]; exact h2 p hp
  · rw [e3 _ (by have := xKd_lt (x := x) hk; omega), eJ (m + 2) (by omega)]; exact h3 k hk
  · rw [eJ (xKd x k + 1) (by have := xKd_lt (x := x) hk; omega), eJ (m + 3) (by omega)]; exact h4 k i hk hi
  · rw [eJ (x + 7 + p) (by omega), eJ (m + 4) (by omega)]; exact h5 p q hp hq
theorem NwR.fr (h : NwR x m w I) (e1 : I' 1111 x = I 1111 x) (e2 : I' 1200 m = I 1200 m) : NwR x m w I' := ⟨e1.trans h.1, e2.trans h.2.1, h.2.2⟩
theorem RwR.fr (h : RwR x m w z t J B) (hz : z ≤ z') (eB : B' (x + 4) = B (x + 4)) (et : ∀ a, a < z → t' a = t a) (e22 : J' (m + 22) = J (m + 22)) (eJ : ∀ a, a < z → t a = (20, 32) → a < m ∨ m + 36 ≤ a → J' a = J a) : RwR x m w z' t' J' B' := fun u hu => by
  obtain ⟨r, h1, h2, h3, h4, h5⟩ := h u hu
  exact ⟨r, by rw [eB]; exact h1, by rw [et r h3]; exact h2, by omega, h4, fun s hs => by rw [eJ r h3 h2 h4, e22]; exact h5 s hs⟩
theorem LotR.fr {i : Nat} (h : LotR x m w I R J la si i) (hz : la i < z) (eI : ∀ f a, 301 ≤ f → f ≤ 311 → a < z → I' f a = I f a) (eR : ∀ a, a < z → R' 300 a = R 300 a) (eJ : ∀ a, m + 6 ≤ a → a ≤ m + 18 → J' a = J a) : LotR x m w I' R' J' la si i := by
  unfold LotR at h ⊢
  rw [eR _ hz, eI 301 _ (by decide) (by decide) hz, eI 302 _ (by decide) (by decide) hz, eI 303 _ (by decide) (by decide) hz, eI 304 _ (by decide) (by decide) hz, eI 305 _ (by decide) (by decide) hz, eI 306 _ (by decide) (by decide) hz, eI 307 _ (by decide) (by decide) hz, eI 308 _ (by decide) (by decide) hz, eI 309 _ (by decide) (by decide) hz, eI 310 _ (by decide) (by decide) hz, eI 311 _ (by decide) (by decide) hz, eJ (m + 10) (by omega) (by omega), eJ (m + 7) (by omega) (by omega), eJ (m + 6) (by omega) (by omega), eJ (m + 8) (by omega) (by omega), eJ (m + 12) (by omega) (by omega), eJ (m + 13) (by omega) (by omega), eJ (m + 14) (by omega) (by omega), eJ (m + 9) (by omega) (by omega), eJ (m + 11) (by omega) (by omega), eJ (m + 15) (by omega) (by omega), eJ (m + 16) (by omega) (by omega), eJ (m + 17) (by omega) (by omega), eJ (m + 18) (by omega) (by omega)]
  exact h
theorem AdR.fr (h : AdR x m n z t B la) (hz : z ≤ z') (eB : B' (x + 128) = B (x + 128)) (et : ∀ a, a < z → t' a = t a) : AdR x m n z' t' B' la :=
  ⟨fun i hi => by obtain ⟨h1, h2, h3, h4⟩ := h.1 i hi; exact ⟨by rw [eB]; exact h1, by rw [et _ h4]; exact h2, h3, by omega⟩, h.2⟩
theorem LoR.fr (h : LoR x m w n z t I R J B la si) (hz : z ≤ z') (e1 : I' 401 (x + 127) = I 401 (x + 127)) (e2 : I' 1201 m = I 1201 m) (eB : B' (x + 128) = B (x + 128)) (et : ∀ a, a < z → t' a = t a) (eI : ∀ f a, 301 ≤ f → f ≤ 311 → a < z → I' f a = I f a) (eR : ∀ a, a < z → R' 300 a = R 300 a) (eJ : ∀ a, m + 6 ≤ a → a ≤ m + 18 → J' a = J a) : LoR x m w n z' t' I' R' J' B' la si := by
  obtain ⟨⟨h1, h2, h3⟩, ha, hl, h0⟩ := h
  exact ⟨⟨h1, e1.trans h2, e2.trans h3⟩, ha.fr hz eB et, fun i hi => (hl i hi).fr (ha.1 i hi).2.2.2 eI eR eJ, fun i hi => by rw [eJ (m + 15) (by omega) (by omega), eJ (m + 18) (by omega) (by omega)]; exact h0 i hi⟩
theorem Chain.fr : ∀ (ch : List Nat) (r : Option Nat), Chain t R r ch → (∀ a ∈ ch, t' a = t a ∧ R' 313 a = R 313 a) → Chain t' R' r ch
  | [], _, h, _ => h
  | a :: as, r, h, e => ⟨h.1, by rw [(e a List.mem_cons_self).1]; exact h.2.1, by rw [(e a List.mem_cons_self).2]; exact Chain.fr as _ h.2.2 (fun b hb => e b (List.mem_cons_of_mem _ hb))⟩
theorem ChR.fr (h : ChR x m n t R J la L) (ha : AdR x m n z t B la) (e4 : R' 402 (x + 127) = R 402 (x + 127)) (et : ∀ a, a < z → t' a = t a) (eR : ∀ a, a < z → R' 313 a = R 313 a) (eJ : J' (m + 8) = J (m + 8)) : ChR x m n t' R' J' la L := by
  obtain ⟨h1, h2, h3⟩ := h
  refine ⟨?_, h2, by rw [eJ]; exact h3⟩
  rw [e4]
  refine Chain.fr _ _ h1 (fun a hm => ?_)
  obtain ⟨i, hi, rfl⟩ := List.mem_map.mp hm
  have hin : i < n := List.mem_range.mp (h2.mem_iff.mp hi)
  exact ⟨et _ (ha.1 i hin).2.2.2, eR _ (ha.1 i hin).2.2.2⟩
theorem StR.fr (h : StR x m I J) (e1 : ∀ s, s < 32 → I' 900 (xSo x s + 1) = I 900 (xSo x s + 1)) (e2 : ∀ s, s < 32 → I' 706 (xSo x s) = I 706 (xSo x s)) (e3 : ∀ s, s < 32 → I' 705 (xSo x s) = I 705 (xSo x s)) (eJ : ∀ a, m + 19 ≤ a → a ≤ m + 21 → J' a = J a) : StR x m I' J' := fun s hs => by
  rw [e1 s hs, e2 s hs, e3 s hs, eJ (m + 19) (by omega) (by omega), eJ (m + 20) (by omega) (by omega), eJ (m + 21) (by omega) (by omega)]
  exact h s hs
theorem CnR.fr (h : CnR x m n I J) (e1 : I' 1112 x = I 1112 x) (e2 : I' 1113 x = I 1113 x) (e3 : I' 1114 x = I 1114 x) (e4 : I' 1202 m = I 1202 m) (e5 : I' 1203 m = I 1203 m) (j1 : J' (m + 18) = J (m + 18)) (j2 : J' (m + 21) = J (m + 21)) : CnR x m n I' J' := by
  unfold CnR at h ⊢
  rw [e1, e2, e3, e4, e5, j1, j2]
  exact h
theorem SChain.fr : ∀ (ch : List Nat) (r : Option Nat), SChain t R r ch → (∀ a ∈ ch, t' a = t a ∧ R' 801 a = R 801 a) → SChain t' R' r ch
  | [], _, h, _ => h
  | a :: as, r, h, e => ⟨h.1, by rw [(e a List.mem_cons_self).1]; exact h.2.1, by rw [(e a List.mem_cons_self).2]; exact SChain.fr as _ h.2.2 (fun b hb => e b (List.mem_cons_of_mem _ hb))⟩
theorem itr_congr {α : Type} {f g : Nat → α → α} : ∀ (k i : Nat) (s : α), (∀ j s, i ≤ j → j < i + k → f j s = g j s) → itr f i k s = itr g i k s
  | 0, _, _, _ => rfl
  | k + 1, i, s, h => by rw [itr, itr, h i s (by omega) (by omega)]; exact itr_congr k _ _ (fun j s h1 h2 => h j s (by omega) (by omega))
theorem blM_fr {N : Nat} {i : Int32} (j1 : J' (m + 33) = J (m + 33)) (j2 : J' (m + 34) = J (m + 34)) (j3 : J' (m + 35) = J (m + 35)) : blM J' m N i = blM J m N i := by
  funext s a
  unfold blM
  rw [j1, j3, show laM J' m i s = laM J m i s by funext t b; unfold laM; rw [j1, j2]]
theorem sm_fr {f g : Nat → Int32} {l : List Nat} (h : ∀ a ∈ l, g a = f a) : sm g l = sm f l := sm_congr l h
theorem SuR.fr (h : SuR x m ns z t I R J sv) (hz : z ≤ z') (e1 : I' 1115 x = I 1115 x) (e2 : I' 1204 m = I 1204 m) (e7 : ∀ s, s < 32 → R' 707 (xSo x s) = R 707 (xSo x s)) (et : ∀ a, a < z → t' a = t a) (e8 : ∀ a, a < z → R' 801 a = R 801 a) (i0 : ∀ a, a < z → I' 800 a = I 800 a) (i2 : ∀ a, a < z → I' 802 a = I 802 a) (j1 : J' (m + 33) = J (m + 33)) (j2 : J' (m + 34) = J (m + 34)) (j3 : J' (m + 35) = J (m + 35)) : SuR x m ns z' t' I' R' J' sv := by
  refine ⟨⟨e1.trans h.1.1, e2.trans h.1.2.1, h.1.2.2⟩, fun s hs => ?_⟩
  obtain ⟨a1, a2, a3, a3', a4, a5, a6, a7⟩ := h.2 s hs
  refine ⟨by rw [e7 s hs]; exact SChain.fr _ _ a1 (fun a ha => ⟨et a (a2 a ha).2.1, e8 a (a2 a ha).2.1⟩), fun a ha => ⟨(a2 a ha).1, by have := (a2 a ha).2.1; omega, by rw [et a (a2 a ha).2.1]; exact (a2 a ha).2.2⟩, a3, fun a ha b hb e => a3' a ha b hb (by rw [← i0 a (a2 a ha).2.1, ← i0 b (a2 b hb).2.1]; exact e), fun a ha => ?_, fun i hi e => ?_, ?_, a7⟩
  · obtain ⟨i, h1, h2, h3⟩ := a4 a ha
    exact ⟨i, by unfold lat at h1 ⊢; rw [j1, j2]; exact h1, by rw [j2, i0 a (a2 a ha).2.1]; exact h2, by rw [j3, i2 a (a2 a ha).2.1]; exact h3⟩
  · rw [j1] at e
    obtain ⟨a, ha, hq⟩ := a5 i hi e
    exact ⟨a, ha, by rw [i0 a (a2 a ha).2.1, j2]; exact hq⟩
  · rw [blM_fr j1 j2 j3, ← a6]
    exact sm_fr (fun a ha => i2 a (a2 a ha).2.1)
theorem TpR.fr (h : TpR x m tn I J) (e1 : I' 1001 (x + 129) = I 1001 (x + 129)) (e2 : I' 1231 m = I 1231 m) (j1 : J' (x + 130) = J (x + 130)) (j2 : J' (m + 26) = J (m + 26)) : TpR x m tn I' J' := ⟨e1.trans h.1, e2.trans h.2.1, h.2.2.1, by rw [j1, j2]; exact h.2.2.2⟩
theorem CoSt.fr {o a0 a1 a2 a3 : Nat} (h : CoSt t R o a0 a1 a2 a3) (et : ∀ a, a = o ∨ a = a0 ∨ a = a1 ∨ a = a2 ∨ a = a3 → t' a = t a) (eR : ∀ f, f < 4 → R' f o = R f o) : CoSt t' R' o a0 a1 a2 a3 := by
  unfold CoSt at h ⊢
  rw [et o (by simp), et a0 (by simp), et a1 (by simp), et a2 (by simp), et a3 (by simp), eR 0 (by decide), eR 1 (by decide), eR 2 (by decide), eR 3 (by decide)]
  exact h
theorem CoA.fr {c : Nat} (h : CoA x m z t R c) (hz : z ≤ z') (et : ∀ a, a < z → t' a = t a) (eR : ∀ f, f < 4 → R' f c = R f c) : CoA x m z' t' R' c := by
  have := h.2.2
  exact ⟨h.1.fr (fun a ha => et a (by omega)) eR, h.2.1, by omega⟩
theorem CtM.fr (h : CtM m J cc) (j0 : J' (m + 27) = J (m + 27)) (j1 : J' (m + 28) = J (m + 28)) (j2 : J' (m + 29) = J (m + 29)) (j3 : J' (m + 30) = J (m + 30)) (j4 : J' (m + 31) = J (m + 31)) : CtM m J' cc := fun j hj => by
  obtain ⟨h1, h2, h3, h4⟩ := h j hj
  exact ⟨by rw [j0]; exact h1, h2, h3.of j1 j2 j3 j4, h4⟩
theorem CoHas.fr {a0 a1 a2 a3 : Nat} {acc : List CC} (h : CoHas J a0 a1 a2 a3 acc) (e0 : J' a0 = J a0) (e1 : J' a1 = J a1) (e2 : J' a2 = J a2) (e3 : J' a3 = J a3) : CoHas J' a0 a1 a2 a3 acc := by
  intro j c hc
  rw [e0, e1, e2, e3]
  exact h j c hc
/-- the arrays of a contract have 34 places -/
theorem CoA.t34 {c k : Nat} (h : CoA x m z t R c) (h1 : 1 ≤ k) (h4 : k ≤ 4) : t (c + k) = (20, 34) := by
  obtain ⟨-, ⟨-, b1⟩, ⟨-, b2⟩, ⟨-, b3⟩, -, b4⟩ := h.1
  rcases (show k = 1 ∨ k = 2 ∨ k = 3 ∨ k = 4 by omega) with rfl | rfl | rfl | rfl
  · exact b1
  · exact b2
  · exact b3
  · exact b4
theorem CoR.fr (h : CoR x m z t I R J B co ct cc) (hm : m = x + 141) (hz : z ≤ z') (e1 : R' 1109 x = R 1109 x) (et : ∀ a, a < z → t' a = t a) (eR : ∀ f a, f < 4 → a < z → R' f a = R f a) (e4 : ∀ a, a < z → (t a).1 = 1 → I' 4 a = I 4 a) (eB : B' (x + 132) = B (x + 132)) (eJ : ∀ a, a < z → t a = (20, 34) → a < m ∨ m + 36 ≤ a → J' a = J a) (eM : ∀ a, m + 27 ≤ a → a ≤ m + 31 → J' a = J a) : CoR x m z' t' I' R' J' B' co ct cc := by
  obtain ⟨⟨h1, h2⟩, h3, h4⟩ := h
  refine ⟨⟨e1.trans h1, h2.fr hz et (fun f hf => eR f _ hf (by have := h2.2.2; omega))⟩, fun j hj => ?_, h4.fr (eM _ (by omega) (by omega)) (eM _ (by omega) (by omega)) (eM _ (by omega) (by omega)) (eM _ (by omega) (by omega)) (eM _ (by omega) (by omega))⟩
  rw [eB]
  rcases h3 j hj with q | ⟨q1, q2, q3, q4, q5, q6, q7⟩
  · exact Or.inl q
  · have hzz := q2.2.2
    have hq := q2.2.1
    exact Or.inr ⟨q1, q2.fr hz et (fun f hf => eR f _ hf (by omega)), q3, q4, by rw [e4 _ (by omega) q2.1.1]; exact q5, q6, q7.fr (eJ _ (by omega) (q2.t34 (by decide) (by decide)) (by omega)) (eJ _ (by omega) (q2.t34 (by decide) (by decide)) (by omega)) (eJ _ (by omega) (q2.t34 (by decide) (by decide)) (by omega)) (eJ _ (by omega) (q2.t34 (by decide) (by decide)) (by omega))⟩
end FR
