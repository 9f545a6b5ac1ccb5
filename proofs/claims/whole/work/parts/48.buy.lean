-- A LOT MORE: BUY AND SEND
theorem insA_map {md : Nat → Int32} {la : Nat → Nat} {n : Nat} : ∀ L : List Nat, insA md (la n) (L.map la) = (insA (fun i => md (la i)) n L).map la
  | [] => rfl
  | c :: cs => by
    rw [List.map_cons, insA, insA]
    split
    · rw [List.map_cons, insA_map cs]
    · rfl
theorem insC_map {md : Nat → Int32} {la : Nat → Nat} {n : Nat} : ∀ L : List Nat, insC md (la n) (L.map la) = (insC (fun i => md (la i)) n L).map la
  | [] => rfl
  | c :: cs => by rw [List.map_cons, insC, insC, List.map_cons, insA_map cs]
theorem insA_congr {f g : Nat → Int32} {n : Nat} (hn : f n = g n) : ∀ L : List Nat, (∀ i ∈ L, f i = g i) → insA f n L = insA g n L
  | [], _ => rfl
  | c :: cs, h => by rw [insA, insA, h c List.mem_cons_self, hn, insA_congr hn cs (fun i hi => h i (List.mem_cons_of_mem _ hi))]
theorem insC_congr {f g : Nat → Int32} {n : Nat} (hn : f n = g n) : ∀ L : List Nat, (∀ i ∈ L, f i = g i) → insC f n L = insC g n L
  | [], _ => rfl
  | c :: cs, h => by rw [insC, insC, insA_congr hn cs (fun i hi => h i (List.mem_cons_of_mem _ hi))]
theorem insA_perm {f : Nat → Int32} {n : Nat} : ∀ L : List Nat, (insA f n L).Perm (n :: L)
  | [] => List.Perm.refl _
  | c :: cs => by
    rw [insA]
    split
    · exact ((insA_perm cs).cons c).trans (List.Perm.swap n c cs)
    · exact List.Perm.refl _
theorem insC_perm {f : Nat → Int32} {n : Nat} : ∀ L : List Nat, (insC f n L).Perm (n :: L)
  | [] => List.Perm.refl _
  | c :: cs => ((insA_perm cs).cons c).trans (List.Perm.swap n c cs)
theorem insA_sort {f : Nat → Int32} {n : Nat} : ∀ L : List Nat, (∀ i ∈ L, i < n) → L.Pairwise (before f) → (insA f n L).Pairwise (before f)
  | [], _, _ => List.pairwise_singleton _ _
  | c :: cs, h, hp => by
    rw [List.pairwise_cons] at hp
    rw [insA]
    split
    · rename_i hc
      rw [List.pairwise_cons]
      refine ⟨fun b hb => ?_, insA_sort cs (fun i hi => h i (List.mem_cons_of_mem _ hi)) hp.2⟩
      rcases List.mem_cons.mp ((insA_perm cs).mem_iff.mp hb) with rfl | hb
      · have hlt := h c List.mem_cons_self
        unfold before
        rw [i_lt, ← Int32.toInt_inj]
        rw [i_le] at hc
        omega
      · exact hp.1 b hb
    · rename_i hc
      rw [List.pairwise_cons]
      refine ⟨fun b hb => ?_, by rw [List.pairwise_cons]; exact hp⟩
      rw [i_le] at hc
      left
      rw [i_lt]
      rcases List.mem_cons.mp hb with rfl | hb
      · omega
      · rcases hp.1 b hb with q | ⟨q, -⟩
        · rw [i_lt] at q; omega
        · rw [← q]; omega
theorem insC_sort {f : Nat → Int32} {n : Nat} (L : List Nat) (h : ∀ i ∈ L, i < n) (hp : L.Pairwise (before f)) (hh : ∀ c cs, L = c :: cs → f c ≤ f n) : (insC f n L).Pairwise (before f) := by
  cases L with
  | nil => exact List.pairwise_singleton _ _
  | cons c cs =>
    have hc := hh c cs rfl
    rw [List.pairwise_cons] at hp
    rw [insC, List.pairwise_cons]
    refine ⟨fun b hb => ?_, insA_sort cs (fun i hi => h i (List.mem_cons_of_mem _ hi)) hp.2⟩
    rcases List.mem_cons.mp ((insA_perm cs).mem_iff.mp hb) with rfl | hb
    · have hlt := h c List.mem_cons_self
      unfold before
      rw [i_lt, ← Int32.toInt_inj]
      rw [i_le] at hc
      omega
    · exact hp.1 b hb
theorem head_le {f : Nat → Int32} {L : List Nat} (hp : L.Pairwise (before f)) {v : Nat} (hv : v ∈ L) : ∀ c cs, L = c :: cs → f c ≤ f v := by
  intro c cs e
  subst e
  rw [List.pairwise_cons] at hp
  rcases List.mem_cons.mp hv with rfl | hv
  · exact Int32.le_refl _
  · rw [i_le]
    rcases hp.1 v hv with q | ⟨q, -⟩
    · rw [i_lt] at q; omega
    · rw [q]; omega
section ADD
variable {x m w n z : Nat} {t t' : TT} {I I' : MI} {R R' : MR} {J J' : MI} {B B' : MR} {la si : Nat → Nat} {L : List Nat}
theorem LoR.add {s : Nat} (h : LoR x m w n z t I R J B la si) (hm : m + 36 ≤ z) (hn : n < 300) (k1 : I' 401 (x + 127) = nI (n + 1)) (k2 : I' 1201 m = nI (n + 1)) (eB : B' (x + 128) = va_up (B (x + 128)) n (some z)) (et : t' = va_up t z (4, 0)) (eI : ∀ f a, 301 ≤ f → f ≤ 311 → a < z → I' f a = I f a) (eR : ∀ a, a < z → R' 300 a = R 300 a) (eJ : ∀ a i, m + 6 ≤ a → a ≤ m + 18 → i ≠ n → J' a i = J a i) (new : LotR x m w I' R' J' (va_up la n z) (va_up si z s) n) : LoR x m w (n + 1) (z + 1) t' I' R' J' B' (va_up la n z) (va_up si z s) := by
  obtain ⟨-, ⟨ha, hinj⟩, hl, h0⟩ := h
  subst et
  refine ⟨⟨by omega, k1, k2⟩, ⟨fun i hi => ?_, fun i j hi hj e => ?_⟩, fun i hi => ?_, fun i hi => ?_⟩
  · rw [eB]
    by_cases e : i = n
    · subst e
      rw [va_up_self, va_up_self, va_up_self]
      exact ⟨rfl, rfl, by omega, by omega⟩
    · have := ha i (by omega)
      rw [va_up_ne _ _ e, va_up_ne _ _ e, va_up_ne _ _ (by omega)]
      exact ⟨this.1, this.2.1, by omega, by omega⟩
  · by_cases e1 : i = n
    · by_cases e2 : j = n
      · omega
      · have := ha j (by omega)
        rw [e1, va_up_self, va_up_ne _ _ e2] at e
        omega
    · have := ha i (by omega)
      by_cases e2 : j = n
      · rw [e2, va_up_self, va_up_ne _ _ e1] at e
        omega
      · rw [va_up_ne _ _ e1, va_up_ne _ _ e2] at e
        exact hinj i j (by omega) (by omega) e
  · by_cases e : i = n
    · subst e; exact new
    · have h1 := hl i (by omega)
      have h2 := (ha i (by omega)).2.2.2
      unfold LotR at h1 ⊢
      rw [va_up_ne _ _ e, va_up_ne _ _ (show la i ≠ z by omega), eR _ h2, eI 301 _ (by decide) (by decide) h2, eI 302 _ (by decide) (by decide) h2, eI 303 _ (by decide) (by decide) h2, eI 304 _ (by decide) (by decide) h2, eI 305 _ (by decide) (by decide) h2, eI 306 _ (by decide) (by decide) h2, eI 307 _ (by decide) (by decide) h2, eI 308 _ (by decide) (by decide) h2, eI 309 _ (by decide) (by decide) h2, eI 310 _ (by decide) (by decide) h2, eI 311 _ (by decide) (by decide) h2, eJ (m + 10) i (by omega) (by omega) e, eJ (m + 7) i (by omega) (by omega) e, eJ (m + 6) i (by omega) (by omega) e, eJ (m + 8) i (by omega) (by omega) e, eJ (m + 12) i (by omega) (by omega) e, eJ (m + 13) i (by omega) (by omega) e, eJ (m + 14) i (by omega) (by omega) e, eJ (m + 9) i (by omega) (by omega) e, eJ (m + 11) i (by omega) (by omega) e, eJ (m + 15) i (by omega) (by omega) e, eJ (m + 16) i (by omega) (by omega) e, eJ (m + 17) i (by omega) (by omega) e, eJ (m + 18) i (by omega) (by omega) e]
      exact h1
  · rw [eJ (m + 15) i (by omega) (by omega) (by omega), eJ (m + 18) i (by omega) (by omega) (by omega)]
    exact h0 i (by omega)
theorem ChR.add {md : Nat → Int32} {R1 : MR} (h : ChR x m n t R J la L) (ha : AdR x m n z t B la) (hK : Linked (va_up t z (4, 0)) (x + 127) z md (L.map la) R1 R') (e8 : ∀ i, i < n → J' (m + 8) i = J (m + 8) i) (hmd : ∀ i, i < n → md (la i) = J' (m + 8) i) (hmz : md z = J' (m + 8) n) (hh : ∀ c cs, L = c :: cs → J (m + 8) c ≤ J' (m + 8) n) : ChR x m (n + 1) (va_up t z (4, 0)) R' J' (va_up la n z) (insC (J' (m + 8)) n L) := by
  obtain ⟨h1, h2, h3⟩ := h
  have hlt : ∀ i ∈ L, i < n := fun i hi => List.mem_range.mp (h2.mem_iff.mp hi)
  refine ⟨?_, ?_, ?_⟩
  · have e1 : L.map la = L.map (va_up la n z) := List.map_congr_left (fun i hi => (va_up_ne _ _ (by have := hlt i hi; omega)).symm)
    have e2 := hK.1
    have e3 := insC_map (md := md) (la := va_up la n z) (n := n) L
    rw [va_up_self] at e3
    rw [e1, e3] at e2
    rw [insC_congr (g := fun i => md (va_up la n z i)) (by rw [va_up_self]; exact hmz.symm) L (fun i hi => by have := hlt i hi; rw [va_up_ne _ _ (by omega)]; exact (hmd i this).symm)]
    exact e2
  · refine (insC_perm L).trans ?_
    refine (h2.cons n).trans ?_
    rw [List.range_succ]
    exact (List.perm_append_singleton n (List.range n)).symm
  · refine insC_sort L hlt (h3.imp_of_mem (fun {a b} ha hb q => ?_)) (fun c cs e => ?_)
    · unfold before at q ⊢
      rw [e8 a (hlt a ha), e8 b (hlt b hb)]
      exact q
    · rw [e8 c (hlt c (by rw [e]; exact List.mem_cons_self))]
      exact hh c cs e
theorem CnR.add (h : CnR x m n I J) (h0 : J' (m + 18) n = 0) (e8 : ∀ i, i < n → J' (m + 18) i = J (m + 18) i) (e1 : I' 1112 x = I' 1202 m) (e2 : I' 1113 x = I 1113 x) (e3 : I' 1114 x = I 1114 x) (e5 : I' 1203 m = I 1203 m) (j2 : J' (m + 21) = J (m + 21)) : CnR x m (n + 1) I' J' := by
  refine ⟨e1, ?_, by rw [e3, j2]; exact h.2.2.1, by rw [e5, j2]; exact h.2.2.2⟩
  rw [e2, h.2.1, sm_succ, h0, Int32.add_zero]
  exact (sm_congr _ (fun i hi => e8 i (List.mem_range.mp hi))).symm
theorem nd_map {L : List Nat} (ha : AdR x m n z t B la) (hp : L.Perm (List.range n)) : (L.map la).Nodup := by
  rw [List.Nodup, List.pairwise_map]
  have hnd : L.Nodup := hp.nodup_iff.mpr List.nodup_range
  refine hnd.imp_of_mem (fun {a b} h1 h2 hne e => hne (ha.2 a b (List.mem_range.mp (hp.mem_iff.mp h1)) (List.mem_range.mp (hp.mem_iff.mp h2)) e))
end ADD
theorem addJ_ne {J : MI} {m l a : Nat} {mk k wk n p cm g mr : Int32} (h : ¬ (m + 6 ≤ a ∧ a ≤ m + 16)) : addJ J m l mk k wk n p cm g mr a = J a := by
  unfold addJ
  simp (disch := omega) only [up2_ne]
theorem addJ_off {J : MI} {m l a i : Nat} {mk k wk n p cm g mr : Int32} (h : i ≠ l) : addJ J m l mk k wk n p cm g mr a i = J a i := by
  unfold addJ
  simp (disch := omega) only [up2o]
theorem addJ_6 {J : MI} {m l : Nat} {mk k wk n p cm g mr : Int32} : addJ J m l mk k wk n p cm g mr (m + 6) l = mk := by
  unfold addJ
  simp (disch := omega) only [up2n, up2s]
theorem addJ_7 {J : MI} {m l : Nat} {mk k wk n p cm g mr : Int32} : addJ J m l mk k wk n p cm g mr (m + 7) l = k := by
  unfold addJ
  simp (disch := omega) only [up2n, up2s]
theorem addJ_8 {J : MI} {m l : Nat} {mk k wk n p cm g mr : Int32} : addJ J m l mk k wk n p cm g mr (m + 8) l = wk := by
  unfold addJ
  simp (disch := omega) only [up2n, up2s]
theorem addJ_9 {J : MI} {m l : Nat} {mk k wk n p cm g mr : Int32} : addJ J m l mk k wk n p cm g mr (m + 9) l = n := by
  unfold addJ
  simp (disch := omega) only [up2n, up2s]
theorem addJ_10 {J : MI} {m l : Nat} {mk k wk n p cm g mr : Int32} : addJ J m l mk k wk n p cm g mr (m + 10) l = p := by
  unfold addJ
  simp (disch := omega) only [up2n, up2s]
theorem addJ_11 {J : MI} {m l : Nat} {mk k wk n p cm g mr : Int32} : addJ J m l mk k wk n p cm g mr (m + 11) l = cm := by
  unfold addJ
  simp (disch := omega) only [up2n, up2s]
theorem addJ_12 {J : MI} {m l : Nat} {mk k wk n p cm g mr : Int32} : addJ J m l mk k wk n p cm g mr (m + 12) l = g := by
  unfold addJ
  simp (disch := omega) only [up2n, up2s]
theorem addJ_13 {J : MI} {m l : Nat} {mk k wk n p cm g mr : Int32} : addJ J m l mk k wk n p cm g mr (m + 13) l = mr := by
  unfold addJ
  simp (disch := omega) only [up2n, up2s]
theorem addJ_14 {J : MI} {m l : Nat} {mk k wk n p cm g mr : Int32} : addJ J m l mk k wk n p cm g mr (m + 14) l = n := by
  unfold addJ
  simp (disch := omega) only [up2n, up2s]
theorem addJ_16 {J : MI} {m l : Nat} {mk k wk n p cm g mr : Int32} : addJ J m l mk k wk n p cm g mr (m + 16) l = -1 := by
  unfold addJ
  simp (disch := omega) only [up2n, up2s]
theorem lotI_301 {I : MI} {o : Nat} {mk md g mr c cm : Int32} : lotI I o mk md g mr c cm 301 o = mk := by
  unfold lotI
  simp (disch := omega) only [up2n, up2s]
theorem lotI_302 {I : MI} {o : Nat} {mk md g mr c cm : Int32} : lotI I o mk md g mr c cm 302 o = md := by
  unfold lotI
  simp (disch := omega) only [up2n, up2s]
theorem lotI_303 {I : MI} {o : Nat} {mk md g mr c cm : Int32} : lotI I o mk md g mr c cm 303 o = g := by
  unfold lotI
  simp (disch := omega) only [up2n, up2s]
theorem lotI_304 {I : MI} {o : Nat} {mk md g mr c cm : Int32} : lotI I o mk md g mr c cm 304 o = mr := by
  unfold lotI
  simp (disch := omega) only [up2n, up2s]
theorem lotI_305 {I : MI} {o : Nat} {mk md g mr c cm : Int32} : lotI I o mk md g mr c cm 305 o = c := by
  unfold lotI
  simp (disch := omega) only [up2n, up2s]
theorem lotI_306 {I : MI} {o : Nat} {mk md g mr c cm : Int32} : lotI I o mk md g mr c cm 306 o = c := by
  unfold lotI
  simp (disch := omega) only [up2n, up2s]
theorem lotI_307 {I : MI} {o : Nat} {mk md g mr c cm : Int32} : lotI I o mk md g mr c cm 307 o = cm := by
  unfold lotI
  simp (disch := omega) only [up2n, up2s]
theorem lotI_ne {I : MI} {o f a : Nat} {mk md g mr c cm : Int32} (h : f < 301 ∨ 307 < f) : lotI I o mk md g mr c cm f a = I f a := by
  unfold lotI
  simp (disch := omega) only [up2n]
set_option maxHeartbeats 4000000 in
theorem st_buy {l : Launch} {D : va_G} {A : Nat → Prop} {x m z : Nat} {t : TT} {I : MI} {R : MR} {J : MI} {B : MR} {p mk k c g pr : Int32} (h : Ok x m z t I R J B) (hA : ∀ q, z ≤ q → A q) : Pr l D A 2 1 14 2 mX11_buy mX12_buy [.int p, .int mk, .int k, .int c, .int g, .int pr] x m z t I R J B := by
  have hO := h
  obtain ⟨n, w, la, si, L, ns, sv, tn, co, ct, cc, ⟨hm, hz⟩, hX, hM, hP, hN, hW, hL, hC, hS, hK, hU, hT, hQ⟩ := h
  obtain ⟨hn3, hn1, hn2⟩ := hL.1
  have hw2 := hN.2.2
  refine sem_X11_buy hX (by omega) hA hn1 hn3 hN.1 hC.1 (nd_map hL.2.1 hC.2.1) (fun ho => ?_) (fun i j R' hi hj e1 e2 hok hK1 => ?_)
  · exact ⟨_, rfl, hM.1, sem_X12_buy hM hn2 hn3 (fun _ => ⟨rfl, hO⟩) (fun hv => absurd hv ho)⟩
  · obtain ⟨b1, b2, b3, b4, b5, b6, hlt⟩ := id hok
    have gR : ∀ f a, a < z → f ≠ 313 → f ≠ 402 → R' f a = R f a := fun f a ha h1 h2 => by rw [hK1.2.1 f h1 h2, up2o (by omega), zR_ne _ _ (by omega)]
    have hM2 : MSt m (va_up t z (4, 0)) R' := hM.mono (fun a h1 h2 => va_up_ne _ _ (by omega)) (fun f hf => gR f m (by omega) (by omega) (by omega))
    have em : ∀ f, f ≠ 401 → f ≠ 1112 → (up2 (up2 (up2 (lotI (zI I z) z mk (nI w) g (nI n) c (-1)) 308 z pr) 1112 x (I 1112 x + c)) 401 (x + 127) (nI (n + 1))) f m = I f m := fun f h1 h2 => by rw [up2n h1, up2n h2, up2o (by omega), lotI_off (by omega), zI_ne _ _ (by omega)]
    refine ⟨_, rfl, hM2.1, sem_X12_buy hM2 ((em 1201 (by decide) (by decide)).trans hn2) hn3 (fun ho => absurd hok ho) (fun _ => ⟨rfl, ?_⟩)⟩
    rw [em 1202 (by decide) (by decide), em 1200 (by decide) (by decide), hN.2.1]
    generalize hIF : up2 (up2 (up2 (up2 (up2 (lotI (zI I z) z mk (nI w) g (nI n) c (-1)) 308 z pr) 1112 x (I 1112 x + c)) 401 (x + 127) (nI (n + 1))) 1201 m (nI (n + 1))) 1202 m (I 1202 m + c) = IF
    generalize hJF : up2 (addJ J m n mk k (nI w) c p (-1) g (nI n)) (m + 15) n pr = JF
    have gt : ∀ a, a < z → va_up t z (4, 0) a = t a := fun a ha => va_up_ne _ _ (by omega)
    have gI : ∀ f a, a < z → (!(f == 306 || f == 401 || f == 1112 || f == 1201 || f == 1202)) = true → IF f a = I f a := fun f a ha hf => by
      simp only [Bool.not_eq_true', Bool.or_eq_false_iff, beq_eq_false_iff_ne] at hf
      rw [← hIF, up2n (by omega), up2n (by omega), up2n (by omega), up2n (by omega), up2o (by omega), lotI_off (by omega), zI_ne _ _ (by omega)]
    have gI6 : ∀ a, a < z → IF 306 a = I 306 a := fun a ha => by
      rw [← hIF, up2n (by decide), up2n (by decide), up2n (by decide), up2n (by decide), up2o (by omega), lotI_off (by omega), zI_ne _ _ (by omega)]
    have gJ : ∀ a, ¬ (m + 6 ≤ a ∧ a ≤ m + 18) → JF a = J a := fun a ha => by rw [← hJF, up2_ne _ _ _ (by omega), addJ_ne (by omega)]
    have gJo : ∀ a i, i ≠ n → JF a i = J a i := fun a i hi => by rw [← hJF, up2o hi, addJ_off hi]
    have gz : ∀ f, 301 ≤ f → f ≤ 311 → f ≠ 308 → IF f z = lotI (zI I z) z mk (nI w) g (nI n) c (-1) f z := fun f h1 h2 h3 => by
      rw [← hIF, up2n (by omega), up2n (by omega), up2n (by omega), up2n (by omega), up2n h3]
    have g0 := hL.2.2.2 n (Nat.le_refl _)
    have hL2 : LoR x m w (n + 1) (z + 1) (va_up t z (4, 0)) IF R' JF (va_up B (x + 128) (va_up (B (x + 128)) n (some z))) (va_up la n z) (va_up si z (4 * i + j)) := by
      refine hL.add hz hlt ?_ ?_ (va_up_self _ _ _) rfl (fun f a h1 h2 ha => ?_) (fun a ha => gR 300 a ha (by decide) (by decide)) (fun a i' h1 h2 hi' => gJo a i' hi') ?_
      · rw [← hIF, up2n (by decide), up2n (by decide), up2s]
      · rw [← hIF, up2n (by decide), up2s]
      · by_cases e : f = 306
        · subst e; exact gI6 a ha
        · exact gI f a ha (by simp only [Bool.not_eq_true', Bool.or_eq_false_iff, beq_eq_false_iff_ne]; omega)
      · unfold LotR
        rw [va_up_self, va_up_self, show (4 * i + j) / 4 = i by omega, show (4 * i + j) % 4 = j by omega, gz 301 (by decide) (by decide) (by decide), gz 302 (by decide) (by decide) (by decide), gz 303 (by decide) (by decide) (by decide), gz 304 (by decide) (by decide) (by decide), gz 305 (by decide) (by decide) (by decide), gz 306 (by decide) (by decide) (by decide), gz 307 (by decide) (by decide) (by decide), gz 309 (by decide) (by decide) (by decide), gz 310 (by decide) (by decide) (by decide), gz 311 (by decide) (by decide) (by decide), lotI_301, lotI_302, lotI_303, lotI_304, lotI_305, lotI_306, lotI_307, lotI_ne (by decide), lotI_ne (by decide), lotI_ne (by decide), zI_self, zI_self, zI_self, hK1.2.1 300 (by decide) (by decide), up2s]
        rw [show JF (m + 15) n = pr by rw [← hJF, up2s], show IF 308 z = pr by rw [← hIF, up2n (by decide), up2n (by decide), up2n (by decide), up2n (by decide), up2s]]
        rw [← hJF, up2n (show m + 10 ≠ m + 15 by omega), up2n (show m + 7 ≠ m + 15 by omega), up2n (show m + 6 ≠ m + 15 by omega), up2n (show m + 8 ≠ m + 15 by omega), up2n (show m + 12 ≠ m + 15 by omega), up2n (show m + 13 ≠ m + 15 by omega), up2n (show m + 14 ≠ m + 15 by omega), up2n (show m + 9 ≠ m + 15 by omega), up2n (show m + 11 ≠ m + 15 by omega), up2n (show m + 16 ≠ m + 15 by omega), up2n (show m + 18 ≠ m + 15 by omega), up2n (show m + 17 ≠ m + 15 by omega), addJ_10, addJ_7, addJ_6, addJ_8, addJ_12, addJ_13, addJ_14, addJ_9, addJ_11, addJ_16, addJ_ne (a := m + 18) (by omega), g0.2]
        refine ⟨⟨rfl, by omega, e1, e2⟩, ⟨rfl, Nn.of rfl b2⟩, ⟨rfl, w, Nat.le_refl _, rfl⟩, rfl, ⟨rfl, n, Nat.le_refl _, rfl⟩, ⟨rfl, Nn.of rfl ⟨Int32.le_trans (by decide) b4.1, b4.2⟩⟩, ⟨rfl, Nn.of rfl ⟨Int32.le_trans (by decide) b4.1, b4.2⟩⟩, rfl, rfl, ⟨⟨fun _ => rfl, fun _ => rfl⟩, by rw [if_pos rfl]⟩, rfl⟩
    have e8n : JF (m + 8) n = nI w := by rw [← hJF, up2n (by omega), addJ_8]
    have hC2 : ChR x m (n + 1) (va_up t z (4, 0)) R' JF (va_up la n z) (insC (JF (m + 8)) n L) := by
      refine hC.add hL.2.1 hK1 (fun i' hi' => gJo _ i' (by omega)) (fun i' hi' => ?_) ?_ (fun c' cs e => ?_)
      · have := (hL.2.1.1 i' hi').2.2.2
        rw [gJo _ i' (by omega), lotI_off (by omega), zI_ne _ _ (by omega)]
        exact (hL.2.2.1 i' hi').2.2.1.1
      · rw [e8n, lotI_302]
      · rw [e8n]
        have hc : c' < n := List.mem_range.mp (hC.2.1.mem_iff.mp (by rw [e]; exact List.mem_cons_self))
        obtain ⟨d, hd, ed⟩ := (hL.2.2.1 c' hc).2.2.1.2
        rw [ed]
        exact nI_le hd (by omega)
    have hK2 : CnR x m (n + 1) IF JF := hK.add (by rw [← hJF, up2n (by omega), addJ_ne (by omega)]; exact g0.2) (fun i' hi' => gJo _ i' (by omega)) (by rw [← hIF, up2n (by decide), up2n (by decide), up2n (by decide), up2s, up2s, hK.1]) (gI 1113 x (by omega) (by decide)) (gI 1114 x (by omega) (by decide)) (gI 1203 m (by omega) (by decide)) (gJ _ (by omega))
    exact ⟨n + 1, w, va_up la n z, va_up si z (4 * i + j), insC (JF (m + 8)) n L, ns, sv, tn, co, ct, cc, ⟨hm, by omega⟩, hX.mono (fun a ha => gt a (by omega)) (fun f a ha hf => by rcases hf with rfl | rfl | rfl <;> exact gI _ a (by omega) (by decide)) (fun f a ha hf => gR f a (by omega) (fun e => by subst e; cases hf) (fun e => by subst e; cases hf)) (fun a i ha h4 h128 h132 => by rw [va_up_ne _ _ h128]), hM.mono (fun a h1 h2 => gt a (by omega)) (fun f hf => gR f m (by omega) (by omega) (by omega)), hP.fr (fun a ha => gI 501 a (by omega) (by decide)) (fun a ha => gI 502 a (by omega) (by decide)) (fun a ha => gI 102 a (by omega) (by decide)) (fun a ha => gJ a (by omega)), hN.fr (gI 1111 x (by omega) (by decide)) (gI 1200 m (by omega) (by decide)), hW.fr (Nat.le_succ _) (va_up_ne _ _ (by omega)) (fun a ha => gt a ha) (gJ _ (by omega)) (fun a ha ht hb => gJ a (by omega)), hL2, hC2, hS.fr (fun s hs => gI 900 _ (by have := xSo_ltx (x := x) hs; omega) (by decide)) (fun s hs => gI 706 _ (by have := xSo_ltx (x := x) hs; omega) (by decide)) (fun s hs => gI 705 _ (by have := xSo_ltx (x := x) hs; omega) (by decide)) (fun a h1 h2 => gJ a (by omega)), hK2, hU.fr (Nat.le_succ _) (gI 1115 x (by omega) (by decide)) (gI 1204 m (by omega) (by decide)) (fun s hs => gR 707 _ (by have := xSo_ltx (x := x) hs; omega) (by decide) (by decide)) gt (fun a ha => gR 801 a ha (by decide) (by decide)) (fun a ha => gI 800 a ha (by decide)) (fun a ha => gI 802 a ha (by decide)) (gJ _ (by omega)) (gJ _ (by omega)) (gJ _ (by omega)), hT.fr (gI 1001 _ (by omega) (by decide)) (gI 1231 m (by omega) (by decide)) (gJ _ (by omega)) (gJ _ (by omega)), hQ.fr hm (Nat.le_succ _) (gR 1109 x (by omega) (by decide) (by decide)) gt (fun f a hf ha => gR f a ha (by omega) (by omega)) (fun a ha _ => gI 4 a ha (by decide)) (va_up_ne _ _ (by omega)) (fun a ha ht hb => gJ a (by omega)) (fun a h1 h2 => gJ a (by omega))⟩
