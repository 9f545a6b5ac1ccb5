-- THE WEEK: the same on both sides
theorem es_eq {x m n s : Nat} {la si : Nat → Nat} {L : List Nat} {I J : MI} (hL : L.Perm (List.range n)) (hs : s < 32) (hS : ∀ l, l < n → si (la l) < 32 ∧ J (m + 10) l = nI (si (la l) / 4) ∧ J (m + 7) l = nI (si (la l) % 4)) (e6 : ∀ l, l < n → I 306 (la l) = J (m + 9) l) (e7 : ∀ l, l < n → I 307 (la l) = J (m + 11) l) (e5 : I 501 (xPl x (s / 4)) = J (m + 1) (s / 4)) (er : I 102 (xKd x (s % 4)) = J (m + 2) (s % 4)) (eo : I 900 (xSo x s + 1) = J (m + 19) s) (ep : I 705 (xSo x s) = J (m + 21) s) : (esX x si la L I s).2 = (esM m L J s).2 ∧ ∀ l, l < n → (esX x si la L I s).1 l = (esM m L J s).1 l := by
  unfold esX esM
  rw [e5, er, eo, ep]
  refine fold_cong (T := fun l => l < n) L _ _ (fun l hl => ?_) rfl (fun l hl => e6 l hl)
  have hln := List.mem_range.mp (hL.mem_iff.mp hl)
  refine ⟨?_, fun _ => hln⟩
  have h1 := el_iff (J := J) (m := m) (N := n) (S := fun l => si (la l)) hS hln hs
  have h2 : elX si la (I 307) s l = true ↔ (si (la l) = s ∧ J (m + 11) l = -1) := by
    unfold elX
    rw [Bool.and_eq_true, decide_eq_true_eq, decide_eq_true_eq, e7 l hln]
  cases ha : elX si la (I 307) s l <;> cases hb : elM (J (m + 10)) (J (m + 7)) (J (m + 11)) (s / 4) (s % 4) l
  · rfl
  · exact absurd (h2.mpr (h1.mp hb)) (by rw [ha]; simp)
  · exact absurd (h1.mpr (h2.mp ha)) (by rw [hb]; simp)
  · rfl
theorem itr_last {α : Type} {f : Nat → α → α} : ∀ (n i : Nat) (s : α), itr f i (n + 1) s = f (i + n) (itr f i n s)
  | 0, i, s => rfl
  | n + 1, i, s => by
    rw [itr, itr_last n (i + 1), itr, show i + 1 + n = i + (n + 1) by omega]
set_option maxHeartbeats 8000000 in
theorem st_week {l : Launch} {D : va_G} {A : Nat → Prop} {x m z : Nat} {t : TT} {I : MI} {R : MR} {J : MI} {B : MR} (h : Ok x m z t I R J B) (hA : ∀ q, z ≤ q → A q) : Pr l D A 3 1 32 2 mX11_week mX12_week [] x m z t I R J B := by
  have hO := h
  obtain ⟨n, w, la, si, L, ns, sv, tn, co, ct, cc, ⟨hm, hz⟩, hX, hM, hP, hN, hW, hL, hC, hS, hK, hU, hT, hQ⟩ := h
  obtain ⟨hn3, hn1, hn2⟩ := hL.1
  have hw2 := hN.2.2
  have hinj := hL.2.1.2
  have hlt : ∀ l ∈ L, l < n := fun l hl => List.mem_range.mp (hC.2.1.mem_iff.mp hl)
  have hmem : ∀ l, l < n → l ∈ L := fun l hl => hC.2.1.mem_iff.mpr (List.mem_range.mpr hl)
  have hnd : L.Nodup := hC.2.1.nodup_iff.mpr List.nodup_range
  have h13 : ∀ l, l < n → J (m + 13) l = nI (cl (J (m + 13) l)) ∧ cl (J (m + 13) l) ≤ l := fun l hl => (hL.2.2.1 l hl).2.2.2.2.1.2.cl (by omega)
  have hkf : ∀ l, l < n → J (m + 7) l = nI (si (la l) % 4) ∧ si (la l) % 4 < 4 := fun l hl => ⟨(hL.2.2.1 l hl).1.2.2.2, by omega⟩
  have hok : LotsOk x n t I R B si (fun a => cl (I 304 a)) (fun a => la (cl (I 304 a))) (L.map la) := fun a ha => by
    obtain ⟨l, hl, rfl⟩ := List.mem_map.mp ha
    have hln := hlt l hl
    have g := hL.2.2.1 l hln
    have q := h13 l hln
    show (_ ∧ _) ∧ (_ = nI (cl (I 304 (la l))) ∧ cl (I 304 (la l)) < n) ∧ B (x + 128) (cl (I 304 (la l))) = some (la (cl (I 304 (la l)))) ∧ (t (la (cl (I 304 (la l))))).1 = 4
    rw [g.2.2.2.2.1.1]
    have ga := hL.2.1.1 (cl (J (m + 13) l)) (by omega)
    exact ⟨⟨g.1.1, g.1.2.1⟩, ⟨q.1, by omega⟩, ga.1, ga.2.1⟩
  refine sem_X11_week hX (by omega) hA hn1 hn3 hN.1 hw2 hok hC.1 (fun hw => ?_) (fun hw => ?_)
  · refine ⟨_, rfl, hM.1, sem_X12_week (N := n) (w := w) (kf := fun l => si (la l) % 4) (gf := fun l => cl (J (m + 13) l)) hM hn3 hN.2.1 hw2 ?_ hkf (fun l hl => ⟨(h13 l hl).1, by have := (h13 l hl).2; omega⟩) ?_ (fun _ => ⟨rfl, hO⟩) (fun q => by omega)⟩
    · obtain ⟨f1, -⟩ := wk_fold (m := m) (kf := fun l => si (la l) % 4) (gf := fun l => cl (J (m + 13) l)) (w := nI w) n 0 J
      refine ⟨hn2, fun k hk => ?_, fun p k hp hk _ => ?_⟩
      · rw [f1 _ (by omega) (by omega) (by omega)]; exact (hP.2.2.1 k hk).2.1
      · rw [f1 (m + 1) (by omega) (by omega) (by omega), f1 (m + 19) (by omega) (by omega) (by omega)]
        exact ((need_ok (hP.1 p hp).2 (hS (4 * p + k) (by omega)).1.2).2.int (by decide)).2
    · intro l hl
      obtain ⟨d, hd, ed⟩ := (hL.2.2.1 l hl).2.2.1.2
      rw [ed, nI_sub hd, show (4 : Int32) = nI 4 from rfl, nI_d (by omega) (by omega)]
      exact nI_pos' (by omega)
  · generalize hch : L.map la = ch
    generalize hI4 : wkX x si (fun a => la (cl (I 304 a))) ch (nI w) J I = I4
    generalize hrow : ch.foldl (rowS si I4) (fun _ => 0) = row
    generalize hJz : va_up J z row = Jz
    have gz : ∀ a, a ≠ z → Jz a = J a := fun a ha => by rw [← hJz]; exact va_up_ne _ _ ha
    have gzm : ∀ a, m ≤ a → a < m + 36 → Jz a = J a := fun a h1 h2 => gz a (by omega)
    have k4 : ∀ f, f ≠ 307 → f ≠ 306 → f ≠ 1113 → f ≠ 311 → f ≠ 900 → f ≠ 901 → f ≠ 705 → f ≠ 1114 → f ≠ 706 → f ≠ 1111 → I4 f = I f := fun f c0 c1 c2 c3 c4 c5 c6 c7 c8 c9 => by
      rw [← hI4]
      unfold wkX
      rw [up2_ne _ _ _ c9]
      exact wk3_keep c0 c1 c2 c3 c4 c5 c6 c7 c8
    have kM : ∀ f, 1200 ≤ f → I4 f = I f := fun f hf => k4 f (by omega) (by omega) (by omega) (by omega) (by omega) (by omega) (by omega) (by omega) (by omega) (by omega)
    have hM2 : MSt m (va_up t z (20, 32)) R := hM.mono (fun a h1 h2 => va_up_ne _ _ (by omega)) (fun _ _ => rfl)
    -- what spoils, in the reference
    obtain ⟨f1, f11, f9, f18, fsm⟩ := wk_fold (m := m) (kf := fun l => si (la l) % 4) (gf := fun l => cl (J (m + 13) l)) (w := nI w) n 0 Jz
    have fsm := fsm n (fun l _ hl => by have := (h13 l (by omega)).2; show cl _ < n; omega)
    generalize hJ1 : itr (wk1 m (fun l => si (la l) % 4) (fun l => cl (J (m + 13) l)) (nI w)) 0 n Jz = J1 at f1 f11 f9 f18 fsm
    have j1 : ∀ b, m ≤ b → b < m + 36 → b ≠ m + 9 → b ≠ m + 11 → b ≠ m + 18 → J1 b = J b := fun b b1 b2 b3 b4 b5 => by rw [f1 b b3 b4 b5, gzm b b1 b2]
    have hlo : ∀ l, loW m (fun l => si (la l) % 4) (nI w) Jz l = loW m (fun l => si (la l) % 4) (nI w) J l := fun l => loW_fr (by rw [gzm _ (by omega) (by omega)]) (gzm _ (by omega) (by omega)) (gzm _ (by omega) (by omega)) (by rw [gzm _ (by omega) (by omega)])
    have r11 : ∀ l, l < n → J1 (m + 11) l = brV (nI w) (J (m + 11) l) := fun l hl => by rw [f11 l, if_pos ⟨by omega, by omega⟩, gzm _ (by omega) (by omega)]
    have r9 : ∀ l, l < n → J1 (m + 9) l = J (m + 9) l - loW m (fun l => si (la l) % 4) (nI w) J l := fun l hl => by rw [f9 l, if_pos ⟨by omega, by omega⟩, gzm _ (by omega) (by omega), hlo]
    have n9 : ∀ l, l < n → Nn (J1 (m + 9) l) 5000 := fun l hl => by
      rw [r9 l hl]
      have g := hL.2.2.1 l hl
      refine lost_ok g.2.2.2.2.2.2.1.2 (part_ok ?_)
      exact (hP.2.2.2.1 (si (la l) % 4) (ageN ((nI w - J (m + 8) l) / 4)) (by omega) (age_ok _).2).2
    -- what comes in and spoils, in the class
    have c1 : ∀ l, l < n → ((L.map la).foldl (stBr (nI w)) I) 307 (la l) = brV (nI w) (J (m + 11) l) := fun l hl => by
      rw [br_fold hinj hl L I hnd hlt, if_pos (hmem l hl), (hL.2.2.1 l hl).2.2.2.2.2.2.2.1]
    have kb : ∀ f, f ≠ 307 → ((L.map la).foldl (stBr (nI w)) I) f = I f := fun f hf => fold_keep (fun I a => stBr_keep hf I a) _ _
    generalize hIb : (L.map la).foldl (stBr (nI w)) I = Ib at c1 kb
    obtain ⟨c6, c11, c13⟩ := co_fold (x := x) (si := si) (bm := fun a => la (cl (I 304 a))) (w := nI w) (J := J) hinj L Ib hnd hlt
    have kc : ∀ f, f ≠ 306 → f ≠ 1113 → f ≠ 311 → ((L.map la).foldl (stCo x si (fun a => la (cl (I 304 a))) (nI w) J) Ib) f = Ib f := fun f h1 h2 h3 => fold_keep (fun I a => stCo_keep h1 h2 h3 I a) _ _
    have hlX : ∀ l, l < n → loCo x si (nI w) J Ib (la l) = loW m (fun l => si (la l) % 4) (nI w) J l := fun l hl => by
      have g := hL.2.2.1 l hl
      unfold loCo loW
      rw [loss_eq (x := x) (m := m) (k := si (la l) % 4) (J := J) (fun i hi => (hP.2.2.2.1 (si (la l) % 4) i (by omega) hi).1), kb 306 (by decide), kb 302 (by decide), c1 l hl, g.2.2.2.2.2.2.1.1, g.2.2.1.1]
    generalize hI2 : (L.map la).foldl (stCo x si (fun a => la (cl (I 304 a))) (nI w) J) Ib = I2 at c6 c11 c13 kc
    have k2 : ∀ f, f ≠ 307 → f ≠ 306 → f ≠ 1113 → f ≠ 311 → I2 f = I f := fun f h0 h1 h2 h3 => by rw [kc f h1 h2 h3, kb f h0]
    have x6 : ∀ l, l < n → I2 306 (la l) = J1 (m + 9) l := fun l hl => by rw [c6 l hl, if_pos (hmem l hl), hlX l hl, kb 306 (by decide), r9 l hl, (hL.2.2.1 l hl).2.2.2.2.2.2.1.1]
    have x7 : ∀ l, l < n → I2 307 (la l) = J1 (m + 11) l := fun l hl => by rw [kc 307 (by decide) (by decide) (by decide), c1 l hl, r11 l hl]
    have x11 : ∀ g, g < n → I2 311 (la g) = J1 (m + 18) g := fun g hg => by
      rw [c11, kb 311 (by decide), (hL.2.2.1 g hg).2.2.2.2.2.2.2.2.2.2, f18, gzm (m + 18) (by omega) (by omega), ← List.range_eq_range', ← sm_perm hC.2.1]
      congr 1
      refine sm_congr _ (fun l hl => ?_)
      have hln := hlt l hl
      have g4 := (hL.2.2.1 l hln).2.2.2.2.1.1
      show (if la (cl (I 304 (la l))) = la g then loCo x si (nI w) J Ib (la l) else 0) = if cl (J (m + 13) l) = g then loW m (fun l => si (la l) % 4) (nI w) Jz l else 0
      rw [hlX l hln, hlo, g4]
      exact ite_c ⟨fun q => hinj _ _ (by have := (h13 l hln).2; omega) hg q, fun q => by rw [q]⟩
    have x13 : I2 1113 x = sm (J1 (m + 18)) (List.range n) := by
      rw [c13, kb 1113 (by decide), hK.2.1, fsm, gzm (m + 18) (by omega) (by omega), ← List.range_eq_range', sm_perm hC.2.1]
      congr 1
      exact sm_congr _ (fun l hl => by rw [hlX l (List.mem_range.mp hl), hlo])
    -- eating
    have hSl : ∀ l, l < n → si (la l) < 32 ∧ J1 (m + 10) l = nI (si (la l) / 4) ∧ J1 (m + 7) l = nI (si (la l) % 4) := fun l hl => by
      rw [j1 _ (by omega) (by omega) (by omega) (by omega) (by omega), j1 _ (by omega) (by omega) (by omega) (by omega) (by omega)]
      exact (hL.2.2.1 l hl).1.2
    have SMI : SM x I := by
      unfold SM
      rw [hK.2.2.1]
      exact (sm_congr _ (fun s hs => (hS s (List.mem_range.mp hs)).2.2)).symm
    have SM2 : SM x I2 := by
      unfold SM at SMI ⊢
      rw [k2 1114 (by decide) (by decide) (by decide) (by decide), k2 705 (by decide) (by decide) (by decide) (by decide)]
      exact SMI
    obtain ⟨y1, y2, y3⟩ := eatX_sp (x := x) (n := n) (la := la) (si := si) (L := L) (I := I2) hinj hlt (fun l hl => (hSl l hl).1) SM2
    have es : ∀ s, s < 32 → (esX x si la L I2 s).2 = (esM m L J1 s).2 ∧ ∀ l, l < n → (esX x si la L I2 s).1 l = (esM m L J1 s).1 l := fun s hs => es_eq hC.2.1 hs hSl x6 x7 (by rw [k2 501 (by decide) (by decide) (by decide) (by decide), j1 _ (by omega) (by omega) (by omega) (by omega) (by omega)]; exact (hP.1 _ (by omega)).1) (by rw [k2 102 (by decide) (by decide) (by decide) (by decide), j1 _ (by omega) (by omega) (by omega) (by omega) (by omega)]; exact (hP.2.2.1 _ (by omega)).1) (by rw [k2 900 (by decide) (by decide) (by decide) (by decide), j1 _ (by omega) (by omega) (by omega) (by omega) (by omega)]; exact (hS s hs).1.1) (by rw [k2 705 (by decide) (by decide) (by decide) (by decide), j1 _ (by omega) (by omega) (by omega) (by omega) (by omega)]; exact (hS s hs).2.2)
    have hI4e : I4 = up2 (eatX x si (L.map la) I2) 1111 x (nI w + 1) := by
      rw [← hI4, ← hch]
      unfold wkX
      rw [hIb, hI2]
    have i4 : ∀ f, f ≠ 1111 → I4 f = eatX x si (L.map la) I2 f := fun f hf => by rw [hI4e, up2_ne _ _ _ hf]
    have kx : ∀ f, f ≠ 900 → f ≠ 901 → f ≠ 306 → f ≠ 705 → f ≠ 1114 → f ≠ 706 → eatX x si (L.map la) I2 f = I2 f := fun f h1 h2 h3 h4 h5 h6 => eatX_keep h1 h2 h3 h4 h5 h6
    -- the reference's meal
    have hp1 : L.Pairwise (before (J1 (m + 8))) := by rw [j1 _ (by omega) (by omega) (by omega) (by omega) (by omega)]; exact hC.2.2
    have hr1 : ∀ k, k < 4 → Nn (J1 (m + 2) k) 500 ∧ 1 ≤ J1 (m + 2) k := fun k hk => by
      rw [j1 _ (by omega) (by omega) (by omega) (by omega) (by omega)]
      exact ⟨(hP.2.2.1 k hk).2.2, (hP.2.2.1 k hk).2.1⟩
    have hm1 : ∀ p, p < 8 → Nn (J1 (m + 1) p) 1000 := fun p hp => by
      rw [j1 _ (by omega) (by omega) (by omega) (by omega) (by omega)]
      exact (hP.1 p hp).2
    have ho1 : ∀ j, j < 32 → Nn (J1 (m + 19) j) 500 := fun j hj => by
      rw [j1 _ (by omega) (by omega) (by omega) (by omega) (by omega)]
      exact (hS j hj).1.2
    have wi : ∀ s, s ≤ 32 → WI m n L (fun l => si (la l)) I4 J1 s (itr (eatG m n) 0 s (I4, J1)) := by
      intro s
      induction s with
      | zero => intro _; exact ⟨fun _ _ _ _ _ => rfl, fun _ _ => rfl, fun l hl => by rw [if_neg (by omega)]; rfl, n9, fun j hj => by omega, fun j _ => ⟨rfl, rfl, rfl⟩, by
          show I4 1203 m = sm (J1 (m + 21)) (List.range 32)
          rw [kM 1203 (by decide), j1 _ (by omega) (by omega) (by omega) (by omega) (by omega)]
          exact hK.2.2.2⟩
      | succ s ih =>
        intro hs
        have := (ih (by omega)).step (by omega) hC.2.1 hp1 hSl hr1 hm1 ho1
        rw [itr_last, Nat.zero_add]
        exact this
    have wf := wi 32 (Nat.le_refl _)
    have hwk : wkE m n (fun l => si (la l) % 4) (fun l => cl (J (m + 13) l)) (nI w) I4 Jz = itr (eatG m n) 0 32 (I4, J1) := by
      unfold wkE
      rw [hJ1, eatG_itr]
    refine ⟨_, rfl, hM2.1, sem_X12_week (N := n) (w := w) (kf := fun l => si (la l) % 4) (gf := fun l => cl (J (m + 13) l)) hM2 hn3 (by rw [kM 1200 (by decide)]; exact hN.2.1) hw2 ?_ (fun l hl => by rw [gzm _ (by omega) (by omega)]; exact hkf l hl) (fun l hl => by rw [gzm _ (by omega) (by omega)]; exact ⟨(h13 l hl).1, by have := (h13 l hl).2; omega⟩) ?_ (fun q => by omega) (fun _ => ⟨rfl, ?_⟩)⟩
    · rw [hJ1]
      refine ⟨by rw [kM 1201 (by decide)]; exact hn2, fun k hk => (hr1 k hk).2, fun p k hp hk _ => ?_⟩
      exact ((need_ok (hm1 p hp) (ho1 (4 * p + k) (by omega))).2.int (by decide)).2
    · rw [gzm _ (by omega) (by omega)]
      intro l hl
      obtain ⟨d, hd, ed⟩ := (hL.2.2.1 l hl).2.2.1.2
      rw [ed, nI_sub hd, show (4 : Int32) = nI 4 from rfl, nI_d (by omega) (by omega)]
      exact nI_pos' (by omega)
    · rw [hwk]
      generalize hQq : itr (eatG m n) 0 32 (I4, J1) = Q at wf
      obtain ⟨w1, w2, w3, w4, w5, w6, w7⟩ := wf
      have b0 := bk_sp (m := m) (N := n) (w := w + 1) 32 0 Q.2 (by omega)
      rw [bkG_itr]
      generalize hJF : itr (bkG m n (w + 1)) 0 32 Q.2 = JF at b0
      obtain ⟨b1, b2⟩ := b0
      generalize hIF : up2 Q.1 1200 m (nI (w + 1)) = IF
      have gI : ∀ f, (!(f == 307 || f == 306 || f == 1113 || f == 311 || f == 900 || f == 901 || f == 705 || f == 1114 || f == 706 || f == 1111 || f == 1200 || f == 1203)) = true → IF f = I f := fun f hf => by
        simp only [Bool.not_eq_true', Bool.or_eq_false_iff, beq_eq_false_iff_ne] at hf
        rw [← hIF, up2_ne _ _ _ (by omega), w2 f (by omega)]
        exact k4 f (by omega) (by omega) (by omega) (by omega) (by omega) (by omega) (by omega) (by omega) (by omega) (by omega)
      have gX : ∀ f, f ≠ 1200 → f ≠ 1203 → f ≠ 1111 → IF f = eatX x si (L.map la) I2 f := fun f h1 h2 h3 => by rw [← hIF, up2_ne _ _ _ h1, w2 f h2, i4 f h3]
      have gt : ∀ a, a < z → va_up t z (20, 32) a = t a := fun a ha => va_up_ne _ _ (by omega)
      have gJ : ∀ a, a ≠ z → ¬ (a = m + 9 ∨ a = m + 11 ∨ (m + 18 ≤ a ∧ a ≤ m + 22)) → JF a = J a := fun a h1 h2 => by
        rw [b1 a (by omega), w1 a (by omega) (by omega) (by omega) (by omega), f1 a (by omega) (by omega) (by omega), gz a h1]
      have gJz : JF z = row := by rw [b1 z (by omega), w1 z (by omega) (by omega) (by omega) (by omega), f1 z (by omega) (by omega) (by omega), ← hJz, va_up_self]
      have q9 : ∀ l, l < n → JF (m + 9) l = if J1 (m + 11) l = -1 then (esM m L J1 (si (la l))).1 l else J1 (m + 9) l := fun l hl => by
        rw [b1 _ (by omega), w3 l hl]
        exact ite_c ⟨fun c => c.2, fun c => ⟨(hSl l hl).1, c⟩⟩
      have v6 : ∀ l, l < n → IF 306 (la l) = JF (m + 9) l := fun l hl => by
        rw [gX 306 (by decide) (by decide) (by decide), y2 l hl, q9 l hl, x7 l hl, x6 l hl, (es _ (hSl l hl).1).2 l hl]
      have v11 : JF (m + 11) = J1 (m + 11) := by rw [b1 _ (by omega), w1 _ (by omega) (by omega) (by omega) (by omega)]
      have v7 : ∀ l, l < n → IF 307 (la l) = JF (m + 11) l := fun l hl => by rw [gX 307 (by decide) (by decide) (by decide), kx 307 (by decide) (by decide) (by decide) (by decide) (by decide) (by decide), x7 l hl, v11]
      have v18 : JF (m + 18) = J1 (m + 18) := by rw [b1 _ (by omega), w1 _ (by omega) (by omega) (by omega) (by omega)]
      have hL2 : LoR x m (w + 1) n (z + 1) (va_up t z (20, 32)) IF R JF (va_up B (x + 4) (va_up (B (x + 4)) (w + 1) (some z))) la si := by
        refine ⟨⟨hn3, by rw [gI 401 rfl]; exact hn1, by rw [gI 1201 rfl]; exact hn2⟩, hL.2.1.fr (by omega) (va_up_ne _ _ (by omega)) gt, fun l hl => ?_, fun l hl => ?_⟩
        · have g := hL.2.2.1 l hl
          unfold LotR
          rw [v6 l hl, v7 l hl, gI 301 rfl, gI 302 rfl, gI 303 rfl, gI 304 rfl, gI 305 rfl, gI 308 rfl, gI 309 rfl, gI 310 rfl, gX 311 (by decide) (by decide) (by decide), kx 311 (by decide) (by decide) (by decide) (by decide) (by decide) (by decide), x11 l hl, v18, gJ (m + 10) (by omega) (by omega), gJ (m + 7) (by omega) (by omega), gJ (m + 6) (by omega) (by omega), gJ (m + 8) (by omega) (by omega), gJ (m + 12) (by omega) (by omega), gJ (m + 13) (by omega) (by omega), gJ (m + 14) (by omega) (by omega), gJ (m + 15) (by omega) (by omega), gJ (m + 16) (by omega) (by omega), gJ (m + 17) (by omega) (by omega)]
          exact ⟨g.1, g.2.1, ⟨g.2.2.1.1, g.2.2.1.2.mono (by omega)⟩, g.2.2.2.1, g.2.2.2.2.1, g.2.2.2.2.2.1, ⟨rfl, by rw [b1 _ (by omega)]; exact w4 l hl⟩, rfl, g.2.2.2.2.2.2.2.2.1, g.2.2.2.2.2.2.2.2.2.1, rfl⟩
        · rw [gJ (m + 15) (by omega) (by omega), v18, f18, gzm (m + 18) (by omega) (by omega)]
          refine ⟨(hL.2.2.2 l hl).1, ?_⟩
          rw [(hL.2.2.2 l hl).2, sm_zero _ (fun i hi => ?_), Int32.zero_add]
          have hi := List.mem_range'_1.mp hi
          exact if_neg (by have := (h13 i (by omega)).2; show ¬ cl (J (m + 13) i) = l; omega)
      have hC2 : ChR x m n (va_up t z (20, 32)) R JF la L := hC.fr hL.2.1 rfl gt (fun _ _ => rfl) (gJ _ (by omega) (by omega))
      have hS2 : StR x m IF JF := fun s hs => by
        obtain ⟨z1, z2, z3⟩ := y1 s hs
        obtain ⟨u1, u2, u3⟩ := w5 s hs
        have eo := fold_ok (el := elM (J1 (m + 10)) (J1 (m + 7)) (J1 (m + 11)) (s / 4) (s % 4)) (hr1 (s % 4) (by omega)).1 (hr1 (s % 4) (by omega)).2 L (J1 (m + 9), le0 (J1 (m + 1) (s / 4)) (J1 (m + 19) s), nd0 (J1 (m + 1) (s / 4)) (J1 (m + 19) s), J1 (m + 21) s) hlt ⟨n9, need_ok (hm1 _ (by omega)) (ho1 s hs)⟩
        rw [gX 900 (by decide) (by decide) (by decide), gX 706 (by decide) (by decide) (by decide), gX 705 (by decide) (by decide) (by decide), z1, z2, z3, (es s hs).1, b1 (m + 19) (by omega), b1 (m + 20) (by omega), b1 (m + 21) (by omega), u1, u2, u3, k2 706 (by decide) (by decide) (by decide) (by decide), j1 (m + 20) (by omega) (by omega) (by omega) (by omega) (by omega), (hS s hs).2.1]
        exact ⟨⟨rfl, eo.2.1⟩, rfl, rfl⟩
      have hK2 : CnR x m n IF JF := by
        refine ⟨by rw [gI 1112 rfl, gI 1202 rfl]; exact hK.1, ?_, ?_, ?_⟩
        · rw [gX 1113 (by decide) (by decide) (by decide), kx 1113 (by decide) (by decide) (by decide) (by decide) (by decide) (by decide), x13, v18]
        · rw [gX 1114 (by decide) (by decide) (by decide)]
          unfold SM at y3
          rw [y3]
          exact sm_congr _ (fun s hs => by rw [← gX 705 (by decide) (by decide) (by decide)]; exact (hS2 s (List.mem_range.mp hs)).2.2)
        · rw [← hIF, up2n (by decide), w7, b1 _ (by omega)]
      have hN2 : NwR x m (w + 1) IF := ⟨by rw [← hIF, up2n (by decide), w2 1111 (by decide), hI4e, up2s, nI_1], by rw [← hIF, up2s], by omega⟩
      have hrowe : ∀ s, s < 32 → row s = JF (m + 22) (32 * (w + 1) + s) := fun s hs => by
        rw [b2, if_pos ⟨by omega, by omega⟩, show 32 * (w + 1) + s - 32 * (w + 1) = s by omega, ← hrow, ← hch, row_sp, Int32.zero_add, sm_itr0 (st := stkM Q.2 m (nI (s / 4)) (nI (s % 4))) (f := fun l => if Q.2 (m + 10) l = nI (s / 4) ∧ Q.2 (m + 7) l = nI (s % 4) ∧ Q.2 (m + 11) l = -1 then Q.2 (m + 9) l else 0) (fun _ _ => rfl), sm_perm hC.2.1]
        refine sm_congr _ (fun l hl => ?_)
        have hl := List.mem_range.mp hl
        have o6 : I4 306 (la l) = Q.2 (m + 9) l := by
          have := v6 l hl
          rw [gX 306 (by decide) (by decide) (by decide), ← i4 306 (by decide), b1 _ (by omega)] at this
          exact this
        have o7 : I4 307 (la l) = Q.2 (m + 11) l := by
          have := v7 l hl
          rw [gX 307 (by decide) (by decide) (by decide), ← i4 307 (by decide), b1 _ (by omega)] at this
          exact this
        show (if I4 307 (la l) = -1 ∧ si (la l) = s then I4 306 (la l) else 0) = if Q.2 (m + 10) l = nI (s / 4) ∧ Q.2 (m + 7) l = nI (s % 4) ∧ Q.2 (m + 11) l = -1 then Q.2 (m + 9) l else 0
        rw [o6, o7, w1 (m + 10) (by omega) (by omega) (by omega) (by omega), w1 (m + 7) (by omega) (by omega) (by omega) (by omega), (hSl l hl).2.1, (hSl l hl).2.2]
        have hs32 := (hSl l hl).1
        refine ite_c ⟨fun c => ⟨by rw [c.2], by rw [c.2], c.1⟩, fun c => ⟨c.2.2, ?_⟩⟩
        have c1 := nI_inj c.1 (by omega) (by omega)
        have c2 := nI_inj c.2.1 (by omega) (by omega)
        omega
      have hW2 : RwR x m (w + 1) (z + 1) (va_up t z (20, 32)) JF (va_up B (x + 4) (va_up (B (x + 4)) (w + 1) (some z))) := fun u hu => by
        rw [va_up_self]
        by_cases e : u = w + 1
        · subst e
          refine ⟨z, va_up_self _ _ _, va_up_self _ _ _, by omega, by omega, fun s hs => ?_⟩
          rw [gJz]
          exact hrowe s hs
        · obtain ⟨r, g1, g2, g3, g4, g5⟩ := hW u (by omega)
          refine ⟨r, by rw [va_up_ne _ _ e]; exact g1, by rw [gt r g3]; exact g2, by omega, g4, fun s hs => ?_⟩
          rw [gJ r (by omega) (by omega), b2, if_neg (by omega), w1 _ (by omega) (by omega) (by omega) (by omega), f1 _ (by omega) (by omega) (by omega), gzm _ (by omega) (by omega)]
          exact g5 s hs
      exact ⟨n, w + 1, la, si, L, ns, sv, tn, co, ct, cc, ⟨hm, by omega⟩, hX.mono (fun a ha => gt a (by omega)) (fun f a _ hf => by rcases hf with rfl | rfl | rfl <;> rw [gI _ rfl]) (fun _ _ _ _ => rfl) (fun a i _ h4 _ _ => by rw [va_up_ne _ _ h4]), hM2, hP.fr (fun a _ => by rw [gI 501 rfl]) (fun a _ => by rw [gI 502 rfl]) (fun a _ => by rw [gI 102 rfl]) (fun a ha => gJ a (by omega) (by omega)), hN2, hW2, hL2, hC2, hS2, hK2, hU.fr (by omega) (by rw [gI 1115 rfl]) (by rw [gI 1204 rfl]) (fun _ _ => rfl) gt (fun _ _ => rfl) (fun a _ => by rw [gI 800 rfl]) (fun a _ => by rw [gI 802 rfl]) (gJ _ (by omega) (by omega)) (gJ _ (by omega) (by omega)) (gJ _ (by omega) (by omega)), hT.fr (by rw [gI 1001 rfl]) (by rw [gI 1231 rfl]) (gJ _ (by omega) (by omega)) (gJ _ (by omega) (by omega)), hQ.fr hm (by omega) rfl gt (fun _ _ _ _ => rfl) (fun a _ _ => by rw [gI 4 rfl]) (va_up_ne _ _ (by omega)) (fun a ha ht hb => gJ a (by omega) (by omega)) (fun a h1 h2 => gJ a (by omega) (by omega))⟩
