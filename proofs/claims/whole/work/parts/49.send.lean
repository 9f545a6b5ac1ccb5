-- SEND
theorem LoR.cask {x m w n z v : Nat} {t : TT} {I : MI} {R : MR} {J : MI} {B : MR} {la si : Nat → Nat} {X : Int32} (h : LoR x m w n z t I R J B la si) (hv : v < n) (hX : Nn X 5000) : LoR x m w n z t (up2 I 306 (la v) X) R (up2 J (m + 9) v X) B la si := by
  obtain ⟨⟨h1, h2, h3⟩, ha, hl, h0⟩ := h
  refine ⟨⟨h1, by rw [up2n (by decide)]; exact h2, by rw [up2n (by decide)]; exact h3⟩, ha, fun i hi => ?_, fun i hi => by rw [up2n (by omega), up2n (by omega)]; exact h0 i hi⟩
  have g := hl i hi
  unfold LotR at g ⊢
  rw [up2n (show 301 ≠ 306 by decide), up2n (show 302 ≠ 306 by decide), up2n (show 303 ≠ 306 by decide), up2n (show 304 ≠ 306 by decide), up2n (show 305 ≠ 306 by decide), up2n (show 307 ≠ 306 by decide), up2n (show 308 ≠ 306 by decide), up2n (show 309 ≠ 306 by decide), up2n (show 310 ≠ 306 by decide), up2n (show 311 ≠ 306 by decide), up2n (show m + 10 ≠ m + 9 by omega), up2n (show m + 7 ≠ m + 9 by omega), up2n (show m + 6 ≠ m + 9 by omega), up2n (show m + 8 ≠ m + 9 by omega), up2n (show m + 12 ≠ m + 9 by omega), up2n (show m + 13 ≠ m + 9 by omega), up2n (show m + 14 ≠ m + 9 by omega), up2n (show m + 11 ≠ m + 9 by omega), up2n (show m + 15 ≠ m + 9 by omega), up2n (show m + 16 ≠ m + 9 by omega), up2n (show m + 17 ≠ m + 9 by omega), up2n (show m + 18 ≠ m + 9 by omega)]
  by_cases e : i = v
  · subst e
    rw [up2s, up2s]
    exact ⟨g.1, g.2.1, g.2.2.1, g.2.2.2.1, g.2.2.2.2.1, g.2.2.2.2.2.1, ⟨rfl, hX⟩, g.2.2.2.2.2.2.2⟩
  · rw [up2o (fun q => e (ha.2 i v hi hv q)), up2o e]
    exact g
theorem addJ_15 {J : MI} {m l i : Nat} {mk k wk n p cm g mr : Int32} : addJ J m l mk k wk n p cm g mr (m + 15) i = J (m + 15) i := by
  unfold addJ
  simp (disch := omega) only [up2n]
set_option maxHeartbeats 4000000 in
theorem st_send {l : Launch} {D : va_G} {A : Nat → Prop} {x m z : Nat} {t : TT} {I : MI} {R : MR} {J : MI} {B : MR} {lt to c : Int32} (h : Ok x m z t I R J B) (hA : ∀ q, z ≤ q → A q) : Pr l D A 2 1 14 2 mX11_send mX12_send [.int lt, .int to, .int c] x m z t I R J B := by
  have hO := h
  obtain ⟨n, w, la, si, L, ns, sv, tn, co, ct, cc, ⟨hm, hz⟩, hX, hM, hP, hN, hW, hL, hC, hS, hK, hU, hT, hQ⟩ := h
  obtain ⟨hn3, hn1, hn2⟩ := hL.1
  have hw2 := hN.2.2
  have hpl : ∀ l, l < n → ∃ p, p < 8 ∧ J (m + 10) l = nI p := fun l hl => ⟨si (la l) / 4, by have := (hL.2.2.1 l hl).1.2.1; omega, (hL.2.2.1 l hl).1.2.2.1⟩
  have hmr : ∀ l, l < n → J (m + 13) l ≠ -1 := fun l hl e => by
    obtain ⟨g, hg, eg⟩ := (hL.2.2.1 l hl).2.2.2.2.1.2
    have : (nI g).toInt = -1 := by rw [← eg, e]; rfl
    rw [nI_toInt (by omega)] at this
    omega
  have hsm : ∀ l, l < n → (sendOk I (la l) n (si (la l)) to c ↔ sendM J m l n to c) := fun l hl => by
    have g := hL.2.2.1 l hl
    unfold sendOk sendM
    rw [g.2.2.2.2.2.2.2.1, g.2.2.2.2.2.2.1.1, g.1.2.2.1]
  refine sem_X11_send (la := la) (si := si) hX (by omega) hA hn1 hn3 hN.1 (fun i hi => ⟨(hL.2.1.1 i hi).1, (hL.2.1.1 i hi).2.1, (hL.2.2.1 i hi).1.1, (hL.2.2.1 i hi).1.2.1⟩) hC.1 (nd_map hL.2.1 hC.2.1) (fun ho => ?_) (fun v i R' hv hi e1 e2 hok hK1 => ?_)
  · exact ⟨_, rfl, hM.1, sem_X12_send hM hn2 hn3 hpl hmr (fun _ => ⟨rfl, hO⟩) (fun l i p hl hi hp e1 e2 e3 hv => absurd ((hsm l hl).mpr hv) (ho l hl e1))⟩
  · obtain ⟨b1, b2, hlt, b4, b5⟩ := id hok
    have gv := hL.2.2.1 v hv
    have av := hL.2.1.1 v hv
    generalize hs : si (la v) = s at hok hK1 b5
    have gv1 := gv.1
    rw [hs] at gv1
    have hs32 : s < 32 := gv1.2.1
    have gR : ∀ f a, a < z → f ≠ 313 → f ≠ 402 → R' f a = R f a := fun f a ha h1 h2 => by rw [hK1.2.1 f h1 h2, up2o (by omega), zR_ne _ _ (by omega)]
    have hM2 : MSt m (va_up t z (4, 0)) R' := hM.mono (fun a h1 h2 => va_up_ne _ _ (by omega)) (fun f hf => gR f m (by omega) (by omega) (by omega))
    generalize hcm : nI w + J (x + 7 + s / 4) i = cm at hK1
    generalize hI1 : lotI (zI I z) z (I 301 (la v)) (I 302 (la v)) (I 303 (la v)) (I 304 (la v)) c cm = I1 at hK1
    have em : ∀ f, 1200 ≤ f → (up2 (up2 I1 306 (la v) (I 306 (la v) - c)) 401 (x + 127) (nI (n + 1))) f m = I f m := fun f h1 => by rw [up2n (by omega), up2n (by omega), ← hI1, lotI_off (by omega), zI_ne _ _ (by omega)]
    refine ⟨_, rfl, hM2.1, sem_X12_send hM2 ((em 1201 (by decide)).trans hn2) hn3 hpl hmr (fun ho => absurd ((hsm v hv).mp (by rw [hs]; exact hok)) (ho v hv e1)) (fun v' i' p hv' hi' hp e1' e2' e3' hk => ⟨rfl, ?_⟩)⟩
    have ev : v' = v := nI_inj (e1'.symm.trans e1) (by omega) (by omega)
    have ei : i' = i := nI_inj (e2'.symm.trans e2) (by omega) (by omega)
    subst ev
    subst ei
    have ep : p = s / 4 := nI_inj (e3'.symm.trans gv1.2.2.1) (by omega) (by omega)
    subst ep
    rw [em 1200 (by decide), hN.2.1, ← (hP.2.2.2.2 (s / 4) i' (by omega) hi).1, hcm]
    have hXv : Nn (J (m + 9) v' - c) 5000 := by
      obtain ⟨q, hq, eq⟩ := gv.2.2.2.2.2.2.1.2
      have l1 := i_le.mp b2.1
      have l2 := i_le.mp b2.2
      have h1 : (1 : Int32).toInt = 1 := rfl
      rw [gv.2.2.2.2.2.2.1.1, eq, nI_toInt (by omega)] at l2
      refine Nn.ofi ?_ ?_ (by decide) <;> rw [eq, sub_i (by omega) (by rw [nI_toInt (by omega)]; omega), nI_toInt (by omega)] <;> omega
    have hNc : Nn c 5000 := by
      obtain ⟨q, hq, eq⟩ := gv.2.2.2.2.2.2.1.2
      have l1 := i_le.mp b2.1
      have l2 := i_le.mp b2.2
      have h1 : (1 : Int32).toInt = 1 := rfl
      rw [gv.2.2.2.2.2.2.1.1, eq, nI_toInt (by omega)] at l2
      exact Nn.ofi (by omega) (by omega) (by decide)
    rw [gv.2.2.2.2.2.2.1.1]
    generalize hXX : J (m + 9) v' - c = X at hXv
    have hLc := hL.cask hv hXv
    generalize hJ1 : up2 J (m + 9) v' X = J1 at hLc
    generalize hIF : up2 (up2 (up2 I1 306 (la v') X) 401 (x + 127) (nI (n + 1))) 1201 m (nI (n + 1)) = IF
    generalize hJF : addJ J1 m n (J (m + 6) v') (J (m + 7) v') (J (m + 8) v') c to cm (J (m + 12) v') (J (m + 13) v') = JF
    have gt : ∀ a, a < z → va_up t z (4, 0) a = t a := fun a ha => va_up_ne _ _ (by omega)
    have gI : ∀ f a, a < z → (!(f == 306 || f == 401 || f == 1201)) = true → IF f a = I f a := fun f a ha hf => by
      simp only [Bool.not_eq_true', Bool.or_eq_false_iff, beq_eq_false_iff_ne] at hf
      rw [← hIF, up2n (by omega), up2n (by omega), up2n (by omega), ← hI1, lotI_off (by omega), zI_ne _ _ (by omega)]
    have gJ : ∀ a, ¬ (m + 6 ≤ a ∧ a ≤ m + 18) → JF a = J a := fun a ha => by rw [← hJF, addJ_ne (by omega), ← hJ1, up2_ne _ _ _ (by omega)]
    have gJo : ∀ a i, i ≠ n → JF a i = J1 a i := fun a i hi => by rw [← hJF, addJ_off hi]
    have gJn : ∀ a i, i ≠ n → a ≠ m + 9 → JF a i = J a i := fun a i hi ha => by rw [gJo a i hi, ← hJ1, up2n ha]
    have gz : ∀ f, f < 400 → f ≠ 306 → IF f z = I1 f z := fun f h1 h2 => by
      rw [← hIF, up2n (by omega), up2n (by omega), up2n h2]
    have gz6 : IF 306 z = I1 306 z := by rw [← hIF, up2n (by decide), up2n (by decide), up2o (by omega)]
    have g0 := hL.2.2.2 n (Nat.le_refl _)
    have hL2 : LoR x m w (n + 1) (z + 1) (va_up t z (4, 0)) IF R' JF (va_up B (x + 128) (va_up (B (x + 128)) n (some z))) (va_up la n z) (va_up si z (4 * i' + s % 4)) := by
      refine hLc.add hz hlt ?_ ?_ (va_up_self _ _ _) rfl (fun f a h1 h2 ha => ?_) (fun a ha => gR 300 a ha (by decide) (by decide)) (fun a j' h1 h2 hj' => gJo a j' hj') ?_
      · rw [← hIF, up2n (by decide), up2s]
      · rw [← hIF, up2s]
      · rw [← hIF, up2n (by omega), up2n (by omega), ← hI1]
        by_cases e : f = 306 ∧ a = la v'
        · obtain ⟨rfl, rfl⟩ := e
          rw [up2s, up2s]
        · rw [up2_at e, up2_at e, lotI_off (by omega), zI_ne _ _ (by omega)]
      · unfold LotR
        rw [va_up_self, va_up_self, show (4 * i' + s % 4) / 4 = i' by omega, show (4 * i' + s % 4) % 4 = s % 4 by omega, gz6, gz 301 (by decide) (by decide), gz 302 (by decide) (by decide), gz 303 (by decide) (by decide), gz 304 (by decide) (by decide), gz 305 (by decide) (by decide), gz 307 (by decide) (by decide), gz 308 (by decide) (by decide), gz 309 (by decide) (by decide), gz 310 (by decide) (by decide), gz 311 (by decide) (by decide), ← hI1, lotI_301, lotI_302, lotI_303, lotI_304, lotI_305, lotI_306, lotI_307, lotI_ne (f := 308) (by decide), lotI_ne (f := 309) (by decide), lotI_ne (f := 310) (by decide), lotI_ne (f := 311) (by decide), zI_self, zI_self, zI_self, zI_self, hK1.2.1 300 (by decide) (by decide), up2s]
        rw [← hJF, addJ_10, addJ_7, addJ_6, addJ_8, addJ_12, addJ_13, addJ_14, addJ_9, addJ_11, addJ_16, addJ_ne (a := m + 18) (by omega), addJ_ne (a := m + 17) (by omega), addJ_15, ← hJ1, up2n (show m + 18 ≠ m + 9 by omega), up2n (show m + 15 ≠ m + 9 by omega), g0.1, g0.2]
        refine ⟨⟨rfl, by omega, e2, gv1.2.2.2⟩, ⟨gv.2.1.1, gv.2.1.2⟩, ⟨gv.2.2.1.1, gv.2.2.1.2⟩, gv.2.2.2.1, ⟨gv.2.2.2.2.1.1, gv.2.2.2.2.1.2.mono (by omega)⟩, ⟨rfl, hNc⟩, ⟨rfl, hNc⟩, rfl, rfl, ⟨⟨fun _ => rfl, fun _ => rfl⟩, by rw [if_pos rfl]⟩, rfl⟩
    have e8n : JF (m + 8) n = J (m + 8) v' := by rw [← hJF, addJ_8]
    have hC2 : ChR x m (n + 1) (va_up t z (4, 0)) R' JF (va_up la n z) (insC (JF (m + 8)) n L) := by
      refine hC.add hL.2.1 hK1 (fun j' hj' => gJn _ j' (by omega) (by omega)) (fun j' hj' => ?_) ?_ (fun c' cs e => ?_)
      · have := (hL.2.1.1 j' hj').2.2.2
        rw [gJn _ j' (by omega) (by omega), ← hI1, lotI_off (by omega), zI_ne _ _ (by omega)]
        exact (hL.2.2.1 j' hj').2.2.1.1
      · rw [e8n, ← hI1, lotI_302]
        exact gv.2.2.1.1
      · rw [e8n]
        exact head_le hC.2.2 (hC.2.1.mem_iff.mpr (List.mem_range.mpr hv)) c' cs e
    have hK2 : CnR x m (n + 1) IF JF := hK.add (by rw [← hJF, addJ_ne (by omega), ← hJ1, up2n (by omega)]; exact g0.2) (fun j' hj' => gJn _ j' (by omega) (by omega)) (by rw [gI 1112 x (by omega) rfl, gI 1202 m (by omega) rfl]; exact hK.1) (gI 1113 x (by omega) (by decide)) (gI 1114 x (by omega) (by decide)) (gI 1203 m (by omega) (by decide)) (gJ _ (by omega))
    exact ⟨n + 1, w, va_up la n z, va_up si z (4 * i' + s % 4), insC (JF (m + 8)) n L, ns, sv, tn, co, ct, cc, ⟨hm, by omega⟩, hX.mono (fun a ha => gt a (by omega)) (fun f a ha hf => by rcases hf with rfl | rfl | rfl <;> exact gI _ a (by omega) (by decide)) (fun f a ha hf => gR f a (by omega) (fun e => by subst e; cases hf) (fun e => by subst e; cases hf)) (fun a i ha h4 h128 h132 => by rw [va_up_ne _ _ h128]), hM.mono (fun a h1 h2 => gt a (by omega)) (fun f hf => gR f m (by omega) (by omega) (by omega)), hP.fr (fun a ha => gI 501 a (by omega) (by decide)) (fun a ha => gI 502 a (by omega) (by decide)) (fun a ha => gI 102 a (by omega) (by decide)) (fun a ha => gJ a (by omega)), hN.fr (gI 1111 x (by omega) (by decide)) (gI 1200 m (by omega) (by decide)), hW.fr (Nat.le_succ _) (va_up_ne _ _ (by omega)) (fun a ha => gt a ha) (gJ _ (by omega)) (fun a ha ht hb => gJ a (by omega)), hL2, hC2, hS.fr (fun s hs => gI 900 _ (by have := xSo_ltx (x := x) hs; omega) (by decide)) (fun s hs => gI 706 _ (by have := xSo_ltx (x := x) hs; omega) (by decide)) (fun s hs => gI 705 _ (by have := xSo_ltx (x := x) hs; omega) (by decide)) (fun a h1 h2 => gJ a (by omega)), hK2, hU.fr (Nat.le_succ _) (gI 1115 x (by omega) (by decide)) (gI 1204 m (by omega) (by decide)) (fun s hs => gR 707 _ (by have := xSo_ltx (x := x) hs; omega) (by decide) (by decide)) gt (fun a ha => gR 801 a ha (by decide) (by decide)) (fun a ha => gI 800 a ha (by decide)) (fun a ha => gI 802 a ha (by decide)) (gJ _ (by omega)) (gJ _ (by omega)) (gJ _ (by omega)), hT.fr (gI 1001 _ (by omega) (by decide)) (gI 1231 m (by omega) (by decide)) (gJ _ (by omega)) (gJ _ (by omega)), hQ.fr hm (Nat.le_succ _) (gR 1109 x (by omega) (by decide) (by decide)) gt (fun f a hf ha => gR f a ha (by omega) (by omega)) (fun a ha _ => gI 4 a ha (by decide)) (va_up_ne _ _ (by omega)) (fun a ha ht hb => gJ a (by omega)) (fun a h1 h2 => gJ a (by omega))⟩
