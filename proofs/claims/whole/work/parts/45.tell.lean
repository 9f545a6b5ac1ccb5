-- THE CALLS THAT TELL
theorem xSo_inj {x a b : Nat} (h : xSo x a = xSo x b) : a = b := by unfold xSo at h; omega
theorem sm_foldl {h : Nat → Int32} {st : Int32 → Nat → Int32} (hs : ∀ s a, st s a = s + h a) : ∀ (L : List Nat) (s : Int32), L.foldl st s = s + sm h L
  | [], s => by simp [sm]
  | a :: l, s => by rw [List.foldl_cons, sm_foldl hs l, sm, hs, Int32.add_assoc]
theorem lt_eq {x m w v : Nat} {I : MI} {R : MR} {J : MI} {la si : Nat → Nat} (h : LotR x m w I R J la si v) : ∀ i, i < 8 → ltM J m v i = ltF I (la v) (si (la v)) i := by
  obtain ⟨⟨-, -, h1, h2⟩, h3, h4, h5, h6, -, h8, h9, -⟩ := h
  intro i hi
  rcases (show i = 0 ∨ i = 1 ∨ i = 2 ∨ i = 3 ∨ i = 4 ∨ i = 5 ∨ i = 6 ∨ i = 7 by omega) with rfl | rfl | rfl | rfl | rfl | rfl | rfl | rfl
  · exact h3.1.symm
  · exact h2
  · exact h4.1.symm
  · exact h8.1.symm
  · exact h1
  · exact h9.symm
  · exact h5.symm
  · exact h6.1.symm
theorem nI_si {a p : Nat} (ha : a < 32) (hp : p < 32) : nI a = nI p ↔ a = p := nI_eq (by omega) (by omega)
/-- the stock, by the chain and by the numbers -/
theorem stock_eq {x m n w z : Nat} {t : TT} {I : MI} {R : MR} {J : MI} {B : MR} {la si : Nat → Nat} {L : List Nat} (hL : LoR x m w n z t I R J B la si) (hC : ChR x m n t R J la L) {i j : Nat} (hi : i < 8) (hj : j < 4) : (L.map la).foldl (stAt I R (xSo x (4 * i + j))) 0 = itr (stkM J m (nI i) (nI j)) 0 n 0 := by
  rw [sm_itr0 (st := stkM J m (nI i) (nI j)) (f := fun l => if J (m + 10) l = nI i ∧ J (m + 7) l = nI j ∧ J (m + 11) l = -1 then J (m + 9) l else 0) (fun _ _ => rfl), sm_fold (st := stAt I R (xSo x (4 * i + j))) (h := fun a => if R 300 a = some (xSo x (4 * i + j)) ∧ I 307 a = -1 then I 306 a else 0) (fun s a => by unfold stAt; split <;> simp), Int32.zero_add, sm_perm hC.2.1]
  refine sm_congr _ (fun a ha => ?_)
  have ha := List.mem_range.mp ha
  obtain ⟨⟨h0, h1, h2, h3⟩, -, -, -, -, -, h8, h9, -⟩ := hL.2.2.1 a ha
  show (if R 300 (la a) = some (xSo x (4 * i + j)) ∧ I 307 (la a) = -1 then I 306 (la a) else 0) = if J (m + 10) a = nI i ∧ J (m + 7) a = nI j ∧ J (m + 11) a = -1 then J (m + 9) a else 0
  rw [h0, h2, h3, h8.1, h9]
  have e : (some (xSo x (si (la a))) = some (xSo x (4 * i + j)) ∧ J (m + 11) a = -1) ↔ (nI (si (la a) / 4) = nI i ∧ nI (si (la a) % 4) = nI j ∧ J (m + 11) a = -1) := by
    rw [nI_si (by omega) (by omega), nI_si (by omega) (by omega)]
    constructor
    · rintro ⟨q1, q2⟩
      have := xSo_inj (Option.some.inj q1)
      exact ⟨by omega, by omega, q2⟩
    · rintro ⟨q1, q2, q3⟩
      exact ⟨by rw [show si (la a) = 4 * i + j by omega], q3⟩
  simp only [e]
theorem st_lot {l : Launch} {D : va_G} {A : Nat → Prop} {x m z : Nat} {t : TT} {I : MI} {R : MR} {J : MI} {B : MR} {a b : Int32} (h : Ok x m z t I R J B) : Pr l D A 2 0 0 2 mX11_lot mX12_lot [.int a, .int b] x m z t I R J B := by
  have hO := h
  obtain ⟨n, w, la, si, L, ns, sv, tn, co, ct, cc, ⟨hm, hz⟩, hX, hM, hP, hN, hW, hL, hC, hS, hK, hU, hT, hQ⟩ := h
  refine sem_X11_lot (la := la) (si := si) hX hL.1.2.1 hL.1.1 (fun i hi => ⟨(hL.2.1.1 i hi).1, (hL.2.1.1 i hi).2.1⟩) (fun i hi => ⟨(hL.2.2.1 i hi).1.1, (hL.2.2.1 i hi).1.2.1⟩) (fun ho => ?_) (fun v hv e ho => ?_) (fun v i hv e hi e2 => ?_)
  · exact ⟨_, rfl, hM.1, sem_X12_lot hM hL.1.2.2 hL.1.1 (fun _ => ⟨rfl, hO⟩) (fun v hv e _ => absurd e (ho v hv)) (fun v i hv e _ _ => absurd e (ho v hv))⟩
  · exact ⟨_, rfl, hM.1, sem_X12_lot hM hL.1.2.2 hL.1.1 (fun ho2 => absurd e (ho2 v hv)) (fun _ _ _ _ => ⟨rfl, hO⟩) (fun v' i' hv' e' hi' e2' => absurd e2' (ho i' hi'))⟩
  · refine ⟨_, rfl, hM.1, sem_X12_lot hM hL.1.2.2 hL.1.1 (fun ho2 => absurd e (ho2 v hv)) (fun v' hv' e' ho' => absurd e2 (ho' i hi)) (fun v' i' hv' e' hi' e2' => ?_)⟩
    have hn3 := hL.1.1
    have ev : v' = v := nI_inj (e'.symm.trans e) (by omega) (by omega)
    have ei : i' = i := nI_inj (e2'.symm.trans e2) (by omega) (by omega)
    subst ev
    subst ei
    exact ⟨by rw [lt_eq (hL.2.2.1 v' hv) i' hi], hO⟩
theorem pk_ok {p k : Int32} {i j : Nat} (hi : i < 8) (hj : j < 4) (e1 : p = nI i) (e2 : k = nI j) : 0 ≤ p ∧ p ≤ 7 ∧ 0 ≤ k ∧ k ≤ 3 := by
  subst e1
  subst e2
  have h1 := Nn.rng (v := nI i) (M := 7) (b := 7) ⟨i, by omega, rfl⟩ rfl (by decide)
  have h2 := Nn.rng (v := nI j) (M := 3) (b := 3) ⟨j, by omega, rfl⟩ rfl (by decide)
  exact ⟨h1.1, h1.2, h2⟩
theorem st_stock {l : Launch} {D : va_G} {A : Nat → Prop} {x m z : Nat} {t : TT} {I : MI} {R : MR} {J : MI} {B : MR} {p k : Int32} (h : Ok x m z t I R J B) : Pr l D A 2 0 0 2 mX11_stock mX12_stock [.int p, .int k] x m z t I R J B := by
  have hO := h
  obtain ⟨n, w, la, si, L, ns, sv, tn, co, ct, cc, ⟨hm, hz⟩, hX, hM, hP, hN, hW, hL, hC, hS, hK, hU, hT, hQ⟩ := h
  refine sem_X11_stock hX hC.1 (fun ho => ?_) (fun i j hi hj e1 e2 => ?_)
  · exact ⟨_, rfl, hM.1, sem_X12_stock hM hL.1.2.2 hL.1.1 (fun _ => ⟨rfl, hO⟩) (fun i j hi hj e1 e2 => absurd (pk_ok hi hj e1 e2) ho)⟩
  · refine ⟨_, rfl, hM.1, sem_X12_stock hM hL.1.2.2 hL.1.1 (fun ho => absurd (pk_ok hi hj e1 e2) ho) (fun i' j' hi' hj' e1' e2' => ?_)⟩
    have ei : i' = i := nI_inj (e1'.symm.trans e1) (by omega) (by omega)
    have ej : j' = j := nI_inj (e2'.symm.trans e2) (by omega) (by omega)
    subst ei
    subst ej
    exact ⟨by rw [e1, e2, stock_eq hL hC hi hj], hO⟩
theorem st_open {l : Launch} {D : va_G} {A : Nat → Prop} {x m z : Nat} {t : TT} {I : MI} {R : MR} {J : MI} {B : MR} {p k : Int32} (h : Ok x m z t I R J B) : Pr l D A 2 0 0 2 mX11_open mX12_open [.int p, .int k] x m z t I R J B := by
  have hO := h
  obtain ⟨n, w, la, si, L, ns, sv, tn, co, ct, cc, ⟨hm, hz⟩, hX, hM, hP, hN, hW, hL, hC, hS, hK, hU, hT, hQ⟩ := h
  refine sem_X11_open hX (fun ho => ?_) (fun i j hi hj e1 e2 => ?_)
  · exact ⟨_, rfl, hM.1, sem_X12_open hM (fun _ => ⟨rfl, hO⟩) (fun i j hi hj e1 e2 => absurd (pk_ok hi hj e1 e2) ho)⟩
  · refine ⟨_, rfl, hM.1, sem_X12_open hM (fun ho => absurd (pk_ok hi hj e1 e2) ho) (fun i' j' hi' hj' e1' e2' => ?_)⟩
    have ei : i' = i := nI_inj (e1'.symm.trans e1) (by omega) (by omega)
    have ej : j' = j := nI_inj (e2'.symm.trans e2) (by omega) (by omega)
    subst ei
    subst ej
    exact ⟨by rw [(hS (4 * i' + j') (by omega)).1.1], hO⟩
theorem st_lacks {l : Launch} {D : va_G} {A : Nat → Prop} {x m z : Nat} {t : TT} {I : MI} {R : MR} {J : MI} {B : MR} {p k : Int32} (h : Ok x m z t I R J B) : Pr l D A 2 0 0 2 mX11_lacks mX12_lacks [.int p, .int k] x m z t I R J B := by
  have hO := h
  obtain ⟨n, w, la, si, L, ns, sv, tn, co, ct, cc, ⟨hm, hz⟩, hX, hM, hP, hN, hW, hL, hC, hS, hK, hU, hT, hQ⟩ := h
  refine sem_X11_lacks hX (fun ho => ?_) (fun i j hi hj e1 e2 => ?_)
  · exact ⟨_, rfl, hM.1, sem_X12_lacks hM (fun _ => ⟨rfl, hO⟩) (fun i j hi hj e1 e2 => absurd (pk_ok hi hj e1 e2) ho)⟩
  · refine ⟨_, rfl, hM.1, sem_X12_lacks hM (fun ho => absurd (pk_ok hi hj e1 e2) ho) (fun i' j' hi' hj' e1' e2' => ?_)⟩
    have ei : i' = i := nI_inj (e1'.symm.trans e1) (by omega) (by omega)
    have ej : j' = j := nI_inj (e2'.symm.trans e2) (by omega) (by omega)
    subst ei
    subst ej
    exact ⟨by rw [(hS (4 * i' + j') (by omega)).2.1], hO⟩
theorem st_balance {l : Launch} {D : va_G} {A : Nat → Prop} {x m z : Nat} {t : TT} {I : MI} {R : MR} {J : MI} {B : MR} {p k : Int32} (h : Ok x m z t I R J B) : Pr l D A 2 0 0 2 mX11_balance mX12_balance [.int p, .int k] x m z t I R J B := by
  have hO := h
  obtain ⟨n, w, la, si, L, ns, sv, tn, co, ct, cc, ⟨hm, hz⟩, hX, hM, hP, hN, hW, hL, hC, hS, hK, hU, hT, hQ⟩ := h
  refine sem_X11_balance hX (sv := sv) (fun i hi => (hU.2 i hi).1) (fun ho => ?_) (fun i j hi hj e1 e2 => ?_)
  · exact ⟨_, rfl, hM.1, sem_X12_balance hM hU.1.2.1 hU.1.2.2 (fun _ => ⟨rfl, hO⟩) (fun i j hi hj e1 e2 => absurd (pk_ok hi hj e1 e2) ho)⟩
  · refine ⟨_, rfl, hM.1, sem_X12_balance hM hU.1.2.1 hU.1.2.2 (fun ho => absurd (pk_ok hi hj e1 e2) ho) (fun i' j' hi' hj' e1' e2' => ?_)⟩
    have ei : i' = i := nI_inj (e1'.symm.trans e1) (by omega) (by omega)
    have ej : j' = j := nI_inj (e2'.symm.trans e2) (by omega) (by omega)
    subst ei
    subst ej
    exact ⟨by rw [sm_foldl (st := stBl I) (h := I 802) (fun _ _ => rfl), Int32.zero_add, (hU.2 (4 * i' + j') (by omega)).2.2.2.2.2.2.1, (hS (4 * i' + j') (by omega)).2.2], hO⟩
theorem st_due {l : Launch} {D : va_G} {A : Nat → Prop} {x m z : Nat} {t : TT} {I : MI} {R : MR} {J : MI} {B : MR} {a : Int32} (h : Ok x m z t I R J B) : Pr l D A 2 0 0 2 mX11_due mX12_due [.int a] x m z t I R J B := by
  have hO := h
  obtain ⟨n, w, la, si, L, ns, sv, tn, co, ct, cc, ⟨hm, hz⟩, hX, hM, hP, hN, hW, hL, hC, hS, hK, hU, hT, hQ⟩ := h
  refine sem_X11_due (la := la) hX hL.1.2.1 hL.1.1 (fun i hi => ⟨(hL.2.1.1 i hi).1, (hL.2.1.1 i hi).2.1⟩) (fun ho => ?_) (fun v hv e => ?_)
  · exact ⟨_, rfl, hM.1, sem_X12_due hM hL.1.2.2 hL.1.1 (fun _ => ⟨rfl, hO⟩) (fun v hv e => absurd e (ho v hv))⟩
  · refine ⟨_, rfl, hM.1, sem_X12_due hM hL.1.2.2 hL.1.1 (fun ho2 => absurd e (ho2 v hv)) (fun v' hv' e' => ?_)⟩
    have hn3 := hL.1.1
    have ev : v' = v := nI_inj (e'.symm.trans e) (by omega) (by omega)
    subst ev
    exact ⟨by rw [(hL.2.2.1 v' hv).2.2.2.2.2.2.2.2.2.1.2], hO⟩
theorem st_condemned {l : Launch} {D : va_G} {A : Nat → Prop} {x m z : Nat} {t : TT} {I : MI} {R : MR} {J : MI} {B : MR} {a : Int32} (h : Ok x m z t I R J B) : Pr l D A 2 0 0 2 mX11_condemned mX12_condemned [.int a] x m z t I R J B := by
  have hO := h
  obtain ⟨n, w, la, si, L, ns, sv, tn, co, ct, cc, ⟨hm, hz⟩, hX, hM, hP, hN, hW, hL, hC, hS, hK, hU, hT, hQ⟩ := h
  refine sem_X11_condemned (la := la) hX hL.1.2.1 hL.1.1 (fun i hi => ⟨(hL.2.1.1 i hi).1, (hL.2.1.1 i hi).2.1⟩) (fun ho => ?_) (fun v hv e => ?_)
  · exact ⟨_, rfl, hM.1, sem_X12_condemned hM hL.1.2.2 hL.1.1 (fun _ => ⟨rfl, hO⟩) (fun v hv e => absurd e (ho v hv))⟩
  · refine ⟨_, rfl, hM.1, sem_X12_condemned hM hL.1.2.2 hL.1.1 (fun ho2 => absurd e (ho2 v hv)) (fun v' hv' e' => ?_)⟩
    have hn3 := hL.1.1
    have ev : v' = v := nI_inj (e'.symm.trans e) (by omega) (by omega)
    subst ev
    exact ⟨by rw [(hL.2.2.1 v' hv).2.2.2.2.2.2.2.2.2.2], hO⟩
theorem owed_eq {x m n w z : Nat} {t : TT} {I : MI} {R : MR} {J : MI} {B : MR} {la si : Nat → Nat} {L : List Nat} (hL : LoR x m w n z t I R J B la si) (hC : ChR x m n t R J la L) (mk : Int32) : (L.map la).foldl (stOw I mk) 0 = itr (owM J m mk) 0 n 0 := by
  rw [sm_itr0 (st := owM J m mk) (f := fun l => if J (m + 6) l = mk ∧ J (m + 16) l ≠ -1 then J (m + 17) l else 0) (fun _ _ => rfl), sm_fold (st := stOw I mk) (h := fun a => if I 301 a = mk then I 310 a else 0) (fun s a => by unfold stOw; split <;> simp), Int32.zero_add, sm_perm hC.2.1]
  refine sm_congr _ (fun a ha => ?_)
  have ha := List.mem_range.mp ha
  obtain ⟨-, h1, -, -, -, -, -, -, -, ⟨-, h2⟩, -⟩ := hL.2.2.1 a ha
  show (if I 301 (la a) = mk then I 310 (la a) else 0) = if J (m + 6) a = mk ∧ J (m + 16) a ≠ -1 then J (m + 17) a else 0
  rw [h1.1, h2]
  by_cases q1 : J (m + 6) a = mk <;> by_cases q2 : J (m + 16) a = -1 <;> simp [q1, q2]
theorem st_owed {l : Launch} {D : va_G} {A : Nat → Prop} {x m z : Nat} {t : TT} {I : MI} {R : MR} {J : MI} {B : MR} {a : Int32} (h : Ok x m z t I R J B) : Pr l D A 0 0 0 0 mX11_owed mX12_owed [.int a] x m z t I R J B := by
  have hO := h
  obtain ⟨n, w, la, si, L, ns, sv, tn, co, ct, cc, ⟨hm, hz⟩, hX, hM, hP, hN, hW, hL, hC, hS, hK, hU, hT, hQ⟩ := h
  refine sem_X11_owed hX.hx hX.lo.1 hX.lo.2.1 hC.1 ?_
  refine ⟨_, rfl, hM.1, sem_X12_owed hM hL.1.2.2 hL.1.1 ?_⟩
  exact ⟨by rw [owed_eq hL hC], hO⟩
theorem all_eq {x m n w z : Nat} {t : TT} {I : MI} {R : MR} {J : MI} {B : MR} {la si : Nat → Nat} {L : List Nat} (hL : LoR x m w n z t I R J B la si) (hC : ChR x m n t R J la L) : (L.map la).foldl (stAll I) 0 = itr (smM J (m + 9)) 0 n 0 := by
  rw [sm_itr0 (st := smM J (m + 9)) (f := J (m + 9)) (fun _ _ => rfl), sm_fold (st := stAll I) (h := I 306) (fun s a => rfl), Int32.zero_add, sm_perm hC.2.1]
  exact sm_congr _ (fun a ha => (hL.2.2.1 a (List.mem_range.mp ha)).2.2.2.2.2.2.1.1)
theorem st_count {l : Launch} {D : va_G} {A : Nat → Prop} {x m z : Nat} {t : TT} {I : MI} {R : MR} {J : MI} {B : MR} {a : Int32} (h : Ok x m z t I R J B) : Pr l D A 1 0 0 0 mX11_count mX12_count [.int a] x m z t I R J B := by
  have hO := h
  obtain ⟨n, w, la, si, L, ns, sv, tn, co, ct, cc, ⟨hm, hz⟩, hX, hM, hP, hN, hW, hL, hC, hS, hK, hU, hT, hQ⟩ := h
  have eq : ∀ i, i < 8 → cnM m I (itr (smM J (m + 9)) 0 n 0) (itr (smM J (m + 18)) 0 n 0) i = cnF x I (L.map la) i := by
    intro i hi
    rcases (show i = 0 ∨ i = 1 ∨ i = 2 ∨ i = 3 ∨ i = 4 ∨ i = 5 ∨ i = 6 ∨ i = 7 by omega) with rfl | rfl | rfl | rfl | rfl | rfl | rfl | rfl
    · exact hN.2.1.trans hN.1.symm
    · exact hL.1.2.2.trans hL.1.2.1.symm
    · exact hK.1.symm
    · exact (all_eq hL hC).symm
    · exact (sm_itr0 (st := smM J (m + 18)) (f := J (m + 18)) (fun _ _ => rfl) n).trans hK.2.1.symm
    · exact hK.2.2.2.trans hK.2.2.1.symm
    · exact hU.1.2.1.trans hU.1.1.symm
    · exact hT.2.1.trans hT.1.symm
  refine sem_X11_count hX hC.1 (fun ho => ?_) (fun i hi e => ?_)
  · exact ⟨_, rfl, hM.1, sem_X12_count hM hL.1.2.2 hL.1.1 (fun _ => ⟨rfl, hO⟩) (fun i hi e => absurd e (ho i hi))⟩
  · refine ⟨_, rfl, hM.1, sem_X12_count hM hL.1.2.2 hL.1.1 (fun ho => absurd e (ho i hi)) (fun i' hi' e' => ?_)⟩
    have ei : i' = i := nI_inj (e'.symm.trans e) (by omega) (by omega)
    subst ei
    exact ⟨by rw [eq i' hi], hO⟩
theorem rows_of {x m w z : Nat} {t : TT} {J : MI} {B : MR} (h : RwR x m w z t J B) : ∀ i, i ≤ w → ∃ r, B (x + 4) i = some r ∧ t r = (20, 32) := fun i hi => by
  obtain ⟨r, h1, h2, -⟩ := h i hi
  exact ⟨r, h1, h2⟩
theorem row_eq {x m w z : Nat} {t : TT} {J : MI} {B : MR} (h : RwR x m w z t J B) {u r s : Nat} (hu : u ≤ w) (hr : B (x + 4) u = some r) (hs : s < 32) : J r s = J (m + 22) (32 * u + s) := by
  obtain ⟨r', h1, -, -, -, h2⟩ := h u hu
  have e : r = r' := Option.some.inj (hr.symm.trans h1)
  subst e
  exact h2 s hs
theorem st_began {l : Launch} {D : va_G} {A : Nat → Prop} {x m z : Nat} {t : TT} {I : MI} {R : MR} {J : MI} {B : MR} {p k v : Int32} (h : Ok x m z t I R J B) : Pr l D A 2 0 0 2 mX11_began mX12_began [.int p, .int k, .int v] x m z t I R J B := by
  have hO := h
  obtain ⟨n, w, la, si, L, ns, sv, tn, co, ct, cc, ⟨hm, hz⟩, hX, hM, hP, hN, hW, hL, hC, hS, hK, hU, hT, hQ⟩ := h
  have hw2 := hN.2.2
  refine sem_X11_began hX hN.1 hN.2.2 (rows_of hW) (fun ho => ?_) (fun ho => ?_) (fun i j u r hi hj e1 e2 hu e3 hr => ?_)
  · exact ⟨_, rfl, hM.1, sem_X12_began hM hN.2.1 hN.2.2 (fun _ => ⟨rfl, hO⟩) (fun _ => ⟨rfl, hO⟩) (fun i j u hi hj e1 e2 => absurd (pk_ok hi hj e1 e2) ho)⟩
  · exact ⟨_, rfl, hM.1, sem_X12_began hM hN.2.1 hN.2.2 (fun _ => ⟨rfl, hO⟩) (fun _ => ⟨rfl, hO⟩) (fun i j u hi hj e1 e2 hu e3 => absurd e3 (ho u hu))⟩
  · refine ⟨_, rfl, hM.1, sem_X12_began hM hN.2.1 hN.2.2 (fun ho => absurd (pk_ok hi hj e1 e2) ho) (fun ho => absurd e3 (ho u hu)) (fun i' j' u' hi' hj' e1' e2' hu' e3' => ?_)⟩
    have ei : i' = i := nI_inj (e1'.symm.trans e1) (by omega) (by omega)
    have ej : j' = j := nI_inj (e2'.symm.trans e2) (by omega) (by omega)
    have eu : u' = u := nI_inj (e3'.symm.trans e3) (by omega) (by omega)
    subst ei
    subst ej
    subst eu
    exact ⟨by rw [row_eq hW hu hr (show 4 * i' + j' < 32 by omega), Nat.add_assoc], hO⟩
theorem st_known {l : Launch} {D : va_G} {A : Nat → Prop} {x m z : Nat} {t : TT} {I : MI} {R : MR} {J : MI} {B : MR} {p k v : Int32} (h : Ok x m z t I R J B) : Pr l D A 2 0 0 2 mX11_known mX12_known [.int p, .int k, .int v] x m z t I R J B := by
  have hO := h
  obtain ⟨n, w, la, si, L, ns, sv, tn, co, ct, cc, ⟨hm, hz⟩, hX, hM, hP, hN, hW, hL, hC, hS, hK, hU, hT, hQ⟩ := h
  have hw2 := hN.2.2
  have hlg : ∀ i, i < 8 → J (m + 5) i = nI (cl (J (m + 5) i)) ∧ cl (J (m + 5) i) ≤ 30 := fun i hi => (hP.2.1 i hi).2.cl (by decide)
  have vin : ∀ u, u ≤ w → v = nI u → 0 ≤ v ∧ v ≤ nI w := fun u hu e => by rw [e]; exact ⟨nI_pos' (by omega), nI_le hu (by omega)⟩
  refine sem_X11_known hX hN.1 hN.2.2 (rows_of hW) (fun ho => ?_) (fun ho => ?_) (fun i hi e1 hv ho => ?_) (fun i j u r hi hj e1 e2 hv hu e3 hr => ?_)
  · exact ⟨_, rfl, hM.1, sem_X12_known (lg := fun i => cl (J (m + 5) i)) hM hN.2.1 hN.2.2 hlg (fun _ => ⟨rfl, hO⟩) (fun _ => ⟨rfl, hO⟩) (fun _ _ _ _ _ _ _ => ⟨rfl, hO⟩) (fun i j u hi hj e1 e2 => absurd (pk_ok hi hj e1 e2) ho)⟩
  · exact ⟨_, rfl, hM.1, sem_X12_known (lg := fun i => cl (J (m + 5) i)) hM hN.2.1 hN.2.2 hlg (fun _ => ⟨rfl, hO⟩) (fun _ => ⟨rfl, hO⟩) (fun _ _ _ _ _ _ _ => ⟨rfl, hO⟩) (fun i j u hi hj e1 e2 hu e3 => absurd (vin u hu e3) ho)⟩
  · refine ⟨_, rfl, hM.1, sem_X12_known (lg := fun i => cl (J (m + 5) i)) hM hN.2.1 hN.2.2 hlg (fun _ => ⟨rfl, hO⟩) (fun _ => ⟨rfl, hO⟩) (fun _ _ _ _ _ _ _ => ⟨rfl, hO⟩) (fun i' j' u hi' hj' e1' e2' hu e3 hle => ?_)⟩
    have ei : i' = i := nI_inj (e1'.symm.trans e1) (by omega) (by omega)
    subst ei
    exfalso
    refine ho (u - cl (J (m + 5) i')) (by omega) ?_
    rw [(hP.2.1 i' hi).1, (hlg i' hi).1, cl_nI (by have := (hlg i' hi).2; omega), e3]
    exact nI_sub hle
  · obtain ⟨l1, l2⟩ := hlg i hi
    have e4 := e3
    rw [(hP.2.1 i hi).1, l1] at e4
    have ev : v = nI (u + cl (J (m + 5) i)) := by
      rw [← nI_add, ← e4, Int32.sub_add_cancel]
    have hle : u + cl (J (m + 5) i) ≤ w := by
      have := i_le.mp hv.2
      rw [ev, nI_toInt (by omega), nI_toInt (by omega)] at this
      omega
    refine ⟨_, rfl, hM.1, sem_X12_known (lg := fun i => cl (J (m + 5) i)) hM hN.2.1 hN.2.2 hlg (fun ho => absurd (pk_ok hi hj e1 e2) ho) (fun ho => absurd hv ho) (fun i' u' hi' e1' hu' e3' hlt => ?_) (fun i' j' u' hi' hj' e1' e2' hu' e3' hge => ?_)⟩
    · exfalso
      have ei : i' = i := nI_inj (e1'.symm.trans e1) (by omega) (by omega)
      subst ei
      have eu : u' = u + cl (J (m + 5) i') := nI_inj (e3'.symm.trans ev) (by omega) (by omega)
      omega
    · have ei : i' = i := nI_inj (e1'.symm.trans e1) (by omega) (by omega)
      have ej : j' = j := nI_inj (e2'.symm.trans e2) (by omega) (by omega)
      subst ei
      subst ej
      have eu : u' = u + cl (J (m + 5) i') := nI_inj (e3'.symm.trans ev) (by omega) (by omega)
      refine ⟨?_, hO⟩
      rw [row_eq hW hu hr (show 4 * i' + j' < 32 by omega), show u' - cl (J (m + 5) i') = u by omega, Nat.add_assoc]
