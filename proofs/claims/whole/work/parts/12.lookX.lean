-- LEAVES of the class that look things up
theorem i_rng {v M : Int32} {N : Nat} (hM : M.toInt = (N : Int) - 1) (h : 0 ≤ v ∧ v ≤ M) : ∃ i, i < N ∧ v = nI i := by
  obtain ⟨j, h1, h2, h3⟩ := i_nat h.1
  have h4 := i_le.mp h.2
  exact ⟨j, by omega, h1⟩
theorem i_out {v M : Int32} {N : Nat} (hM : M.toInt = (N : Int) - 1) (hN : N < 2147483648) (h : ¬ (0 ≤ v ∧ v ≤ M)) : ∀ i, i < N → v ≠ nI i := by
  intro i hi e
  apply h
  have h1 : v.toInt = (i : Int) := by rw [e]; exact nI_toInt (by omega)
  have h0 : (0 : Int32).toInt = 0 := rfl
  exact ⟨by rw [i_le]; omega, by rw [i_le]; omega⟩
theorem i_pred {n : Nat} (hn : n < 2147483648) : (nI n - 1 : Int32).toInt = (n : Int) - 1 := by
  cases n with
  | zero => rfl
  | succ n => rw [nI_pred, nI_toInt (by omega)]; omega
theorem V_getRs {l : Launch} {D : va_G} {A : Nat → Prop} {Rm : Room} {μ : Meth} {K : Kx} {k n z : Nat} {t : TT} {I : MI} {R : MR} {J : MI} {B : MR} {pc pc' : Nat} {lv : List (Option Value)} {st : List Value} {idx c j f T a : Nat} {r : Option Nat} (F : FkR μ.1.cls idx c j f T) (d : D3 μ.2.1 pc (.getfield idx) pc') (ht : (t a).1 = T) (hr : R f a = r) (kk : V l D A Rm μ K k n z t I R J B pc' lv (va_rf r :: st)) : V l D A Rm μ K k n z t I R J B pc lv (va_rf (some a) :: st) := by
  subst hr
  exact V_getR F d ht kk
theorem V_getIs {l : Launch} {D : va_G} {A : Nat → Prop} {Rm : Room} {μ : Meth} {K : Kx} {k n z : Nat} {t : TT} {I : MI} {R : MR} {J : MI} {B : MR} {pc pc' : Nat} {lv : List (Option Value)} {st : List Value} {idx c j f T a : Nat} {r : Int32} (F : FkI μ.1.cls idx c j f T) (d : D3 μ.2.1 pc (.getfield idx) pc') (ht : (t a).1 = T) (hr : I f a = r) (kk : V l D A Rm μ K k n z t I R J B pc' lv (.int r :: st)) : V l D A Rm μ K k n z t I R J B pc lv (va_rf (some a) :: st) := by
  subst hr
  exact V_getI F d ht kk
theorem V_ialds {l : Launch} {D : va_G} {A : Nat → Prop} {Rm : Room} {μ : Meth} {K : Kx} {k n z : Nat} {t : TT} {I : MI} {R : MR} {J : MI} {B : MR} {pc pc' : Nat} {lv : List (Option Value)} {st : List Value} {a N i : Nat} {ix r : Int32} (d : D1 μ.2.1 pc .iaload pc') (ht : t a = (20, N)) (hx : ix = nI i) (hi : i < N) (hN : N < 2147483648) (hr : J a i = r) (kk : V l D A Rm μ K k n z t I R J B pc' lv (.int r :: st)) : V l D A Rm μ K k n z t I R J B pc lv (.int ix :: va_rf (some a) :: st) := by
  subst hr
  exact V_iald d ht hx hi hN kk
theorem V_aalds {l : Launch} {D : va_G} {A : Nat → Prop} {Rm : Room} {μ : Meth} {K : Kx} {k n z : Nat} {t : TT} {I : MI} {R : MR} {J : MI} {B : MR} {pc pc' : Nat} {lv : List (Option Value)} {st : List Value} {a N i j T : Nat} {ix : Int32} {r : Option Nat} (d : D1 μ.2.1 pc .aaload pc') (hT : 21 + j = T) (hj : j < 6) (ht : t a = (T, N)) (hx : ix = nI i) (hi : i < N) (hN : N < 2147483648) (hr : B a i = r) (kk : V l D A Rm μ K k n z t I R J B pc' lv (va_rf r :: st)) : V l D A Rm μ K k n z t I R J B pc lv (.int ix :: va_rf (some a) :: st) := by
  subst hr
  exact V_aald d hT hj ht hx hi hN kk
theorem sem_X4_numbered {l : Launch} {D : va_G} {A : Nat → Prop} {z : Nat} {t : TT} {I : MI} {R : MR} {J : MI} {B : MR} {o ab n : Nat} {v : Int32} {Φ : PP} (ho : (t o).1 = 5) (h1 : R 400 o = some ab) (h2 : t ab = (24, 300)) (hn : I 401 o = nI n) (hn2 : n ≤ 300) (q0 : (∀ i, i < n → v ≠ nI i) → Φ (some (va_rf none)) z t I R J B) (q : ∀ i, i < n → v = nI i → Φ (some (va_rf (B ab i))) z t I R J B) : Sem l D A 1 0 0 mX4_numbered [va_rf (some o), .int v] z t I R J B Φ := by
  refine Sem.run [some (va_rf (some o)), some (.int v)] (by decide) rfl (ent_r (ent_i ent_nil)) ?_
  refine V_iload dX4_numbered_0 rfl ?_
  refine V_const dX4_numbered_1 ?_
  refine V_aload dX4_numbered_2 rfl ?_
  refine V_getIs fk_X4_17 dX4_numbered_3 (by assumption) hn ?_
  refine V_const dX4_numbered_6 ?_
  refine V_isub dX4_numbered_7 ?_
  refine V_invSN (As := [_, _, _]) (host := "FleetStores") ms_X11_within (by decide +kernel) dX4_numbered_8 rfl rfl (Nat.le_of_ble_eq_true rfl) ⟨⟨by decide, by decide⟩, by decide, by decide⟩ (sem_X11_within ?_)
  refine V_if_eq dX4_numbered_11 (fun hc11 => ?_) (fun hc11 => ?_)
  · rw [bI_0] at hc11
    refine V_null dX4_numbered_23 ?_
    exact V_aret dX4_numbered_24 rfl (by decide) (by decide) (q0 (i_out (i_pred (by omega)) (by omega) hc11))
  · rw [bI_n0] at hc11
    obtain ⟨i, hi, hv⟩ := i_rng (i_pred (by omega)) hc11
    refine V_aload dX4_numbered_14 rfl ?_
    refine V_getRs fk_X4_11 dX4_numbered_15 (by assumption) h1 ?_
    refine V_iload dX4_numbered_18 rfl ?_
    refine V_aald (j := 3) dX4_numbered_19 rfl (by decide) h2 hv (by omega) (by decide) ?_
    refine V_goto dX4_numbered_20 ?_
    exact V_aret dX4_numbered_24 rfl (by decide) (by decide) (q i hi hv)
theorem sem_X11_placeOf {l : Launch} {D : va_G} {A : Nat → Prop} {z : Nat} {t : TT} {I : MI} {R : MR} {J : MI} {B : MR} {o ab : Nat} {v : Int32} {Φ : PP} (ho : (t o).1 = 12) (h1 : R 1100 o = some ab) (h2 : t ab = (21, 8)) (q0 : (∀ i, i < 8 → v ≠ nI i) → Φ (some (va_rf none)) z t I R J B) (q : ∀ i, i < 8 → v = nI i → Φ (some (va_rf (B ab i))) z t I R J B) : Sem l D A 1 0 0 mX11_placeOf [va_rf (some o), .int v] z t I R J B Φ := by
  refine Sem.run [some (va_rf (some o)), some (.int v)] (by decide) rfl (ent_r (ent_i ent_nil)) ?_
  refine V_iload dX11_placeOf_0 rfl ?_
  refine V_const dX11_placeOf_1 ?_
  refine V_const dX11_placeOf_2 ?_
  refine V_invS (As := [_, _, _]) ms_X11_within lk_X11_89 dX11_placeOf_4 rfl rfl rfl (Nat.le_of_ble_eq_true rfl) ⟨⟨by decide, by decide⟩, by decide, by decide⟩ (sem_X11_within ?_)
  refine V_if_eq dX11_placeOf_7 (fun hc7 => ?_) (fun hc7 => ?_)
  · rw [bI_0] at hc7
    refine V_null dX11_placeOf_19 ?_
    exact V_aret dX11_placeOf_20 rfl (by decide) (by decide) (q0 (i_out (N := 8) rfl (by decide) hc7))
  · rw [bI_n0] at hc7
    obtain ⟨i, hi, hv⟩ := i_rng (N := 8) rfl hc7
    refine V_aload dX11_placeOf_10 rfl ?_
    refine V_getRs fk_X11_11 dX11_placeOf_11 (by assumption) h1 ?_
    refine V_iload dX11_placeOf_14 rfl ?_
    refine V_aald (j := 0) dX11_placeOf_15 rfl (by decide) h2 hv (by omega) (by decide) ?_
    refine V_goto dX11_placeOf_16 ?_
    exact V_aret dX11_placeOf_20 rfl (by decide) (by decide) (q i hi hv)
theorem sem_X11_kindOf {l : Launch} {D : va_G} {A : Nat → Prop} {z : Nat} {t : TT} {I : MI} {R : MR} {J : MI} {B : MR} {o ab : Nat} {v : Int32} {Φ : PP} (ho : (t o).1 = 12) (h1 : R 1101 o = some ab) (h2 : t ab = (22, 4)) (q0 : (∀ i, i < 4 → v ≠ nI i) → Φ (some (va_rf none)) z t I R J B) (q : ∀ i, i < 4 → v = nI i → Φ (some (va_rf (B ab i))) z t I R J B) : Sem l D A 1 0 0 mX11_kindOf [va_rf (some o), .int v] z t I R J B Φ := by
  refine Sem.run [some (va_rf (some o)), some (.int v)] (by decide) rfl (ent_r (ent_i ent_nil)) ?_
  refine V_iload dX11_kindOf_0 rfl ?_
  refine V_const dX11_kindOf_1 ?_
  refine V_const dX11_kindOf_2 ?_
  refine V_invS (As := [_, _, _]) ms_X11_within lk_X11_89 dX11_kindOf_3 rfl rfl rfl (Nat.le_of_ble_eq_true rfl) ⟨⟨by decide, by decide⟩, by decide, by decide⟩ (sem_X11_within ?_)
  refine V_if_eq dX11_kindOf_6 (fun hc6 => ?_) (fun hc6 => ?_)
  · rw [bI_0] at hc6
    refine V_null dX11_kindOf_18 ?_
    exact V_aret dX11_kindOf_19 rfl (by decide) (by decide) (q0 (i_out (N := 4) rfl (by decide) hc6))
  · rw [bI_n0] at hc6
    obtain ⟨i, hi, hv⟩ := i_rng (N := 4) rfl hc6
    refine V_aload dX11_kindOf_9 rfl ?_
    refine V_getRs fk_X11_17 dX11_kindOf_10 (by assumption) h1 ?_
    refine V_iload dX11_kindOf_13 rfl ?_
    refine V_aald (j := 1) dX11_kindOf_14 rfl (by decide) h2 hv (by omega) (by decide) ?_
    refine V_goto dX11_kindOf_15 ?_
    exact V_aret dX11_kindOf_19 rfl (by decide) (by decide) (q i hi hv)
theorem sem_X11_storeOf {l : Launch} {D : va_G} {A : Nat → Prop} {z : Nat} {t : TT} {I : MI} {R : MR} {J : MI} {B : MR} {o ab : Nat} {v w : Int32} {Φ : PP} (ho : (t o).1 = 12) (h1 : R 1102 o = some ab) (h2 : t ab = (23, 32)) (q0 : ¬ (0 ≤ v ∧ v ≤ 7 ∧ 0 ≤ w ∧ w ≤ 3) → Φ (some (va_rf none)) z t I R J B) (q : ∀ i j, i < 8 → j < 4 → v = nI i → w = nI j → Φ (some (va_rf (B ab (4 * i + j)))) z t I R J B) : Sem l D A 1 0 0 mX11_storeOf [va_rf (some o), .int v, .int w] z t I R J B Φ := by
  refine Sem.run [some (va_rf (some o)), some (.int v), some (.int w)] (by decide) rfl (ent_r (ent_i (ent_i ent_nil))) ?_
  refine V_iload dX11_storeOf_0 rfl ?_
  refine V_const dX11_storeOf_1 ?_
  refine V_const dX11_storeOf_2 ?_
  refine V_invS (As := [_, _, _]) ms_X11_within lk_X11_89 dX11_storeOf_4 rfl rfl rfl (Nat.le_of_ble_eq_true rfl) ⟨⟨by decide, by decide⟩, by decide, by decide⟩ (sem_X11_within ?_)
  refine V_if_eq dX11_storeOf_7 (fun hc7 => ?_) (fun hc7 => ?_)
  · rw [bI_0] at hc7
    refine V_null dX11_storeOf_19 ?_
    exact V_aret dX11_storeOf_20 rfl (by decide) (by decide) (q0 (fun h => hc7 ⟨h.1, h.2.1⟩))
  · rw [bI_n0] at hc7
    refine V_iload dX11_storeOf_10 rfl ?_
    refine V_const dX11_storeOf_11 ?_
    refine V_const dX11_storeOf_12 ?_
    refine V_invS (As := [_, _, _]) ms_X11_within lk_X11_89 dX11_storeOf_13 rfl rfl rfl (Nat.le_of_ble_eq_true rfl) ⟨⟨by decide, by decide⟩, by decide, by decide⟩ (sem_X11_within ?_)
    refine V_if_ne dX11_storeOf_16 (fun hc16 => ?_) (fun hc16 => ?_)
    · rw [bI_n0] at hc16
      obtain ⟨i, hi, hv⟩ := i_rng (N := 8) rfl hc7
      obtain ⟨j, hj, hw⟩ := i_rng (N := 4) rfl hc16
      refine V_aload dX11_storeOf_21 rfl ?_
      refine V_getRs fk_X11_23 dX11_storeOf_22 (by assumption) h1 ?_
      refine V_iload dX11_storeOf_25 rfl ?_
      refine V_const dX11_storeOf_26 ?_
      refine V_imul dX11_storeOf_27 ?_
      refine V_iload dX11_storeOf_28 rfl ?_
      refine V_iadd dX11_storeOf_29 ?_
      refine V_aald (j := 2) dX11_storeOf_30 rfl (by decide) (i := 4 * i + j) h2 (by rw [hv, hw, show (4 : Int32) = nI 4 from rfl, pk_mul, nI_add, Nat.mul_comm]) (by omega) (by decide) ?_
      exact V_aret dX11_storeOf_31 rfl (by decide) (by decide) (q i j hi hj hv hw)
    · rw [bI_0] at hc16
      refine V_null dX11_storeOf_19 ?_
      exact V_aret dX11_storeOf_20 rfl (by decide) (by decide) (q0 (fun h => hc16 ⟨h.2.2.1, h.2.2.2⟩))
theorem sem_X11_stockAsBegan {l : Launch} {D : va_G} {A : Nat → Prop} {z : Nat} {t : TT} {I : MI} {R : MR} {J : MI} {B : MR} {o ab s k n : Nat} {v : Int32} {Φ : PP} (ho : (t o).1 = 12) (h1 : R 1103 o = some ab) (h2 : t ab = (26, 201)) (hs : (t s).1 = 8) (hk : I 700 s = nI k) (hk2 : k < 32) (hn : I 1111 o = nI n) (hn2 : n ≤ 200) (hrow : ∀ i, i ≤ n → ∃ r, B ab i = some r ∧ t r = (20, 32)) (q0 : (∀ i, i ≤ n → v ≠ nI i) → Φ (some (.int (-1))) z t I R J B) (q : ∀ i r, i ≤ n → v = nI i → B ab i = some r → Φ (some (.int (J r k))) z t I R J B) : Sem l D A 1 0 0 mX11_stockAsBegan [va_rf (some o), va_rf (some s), .int v] z t I R J B Φ := by
  refine Sem.run [some (va_rf (some o)), some (va_rf (some s)), some (.int v)] (by decide) rfl (ent_r (ent_r (ent_i ent_nil))) ?_
  refine V_iload dX11_stockAsBegan_0 rfl ?_
  refine V_const dX11_stockAsBegan_1 ?_
  refine V_aload dX11_stockAsBegan_2 rfl ?_
  refine V_getIs fk_X11_121 dX11_stockAsBegan_3 (by assumption) hn ?_
  refine V_invS (As := [_, _, _]) ms_X11_within lk_X11_89 dX11_stockAsBegan_6 rfl rfl rfl (Nat.le_of_ble_eq_true rfl) ⟨⟨by decide, by decide⟩, by decide, by decide⟩ (sem_X11_within ?_)
  refine V_if_eq dX11_stockAsBegan_9 (fun hc9 => ?_) (fun hc9 => ?_)
  · rw [bI_0] at hc9
    refine V_const dX11_stockAsBegan_21 ?_
    exact V_iret dX11_stockAsBegan_22 rfl (by decide) (by decide) (q0 (fun i hi => i_out (N := n + 1) (by rw [nI_toInt (by omega)]; omega) (by omega) hc9 i (by omega)))
  · rw [bI_n0] at hc9
    obtain ⟨i, hi, hv⟩ := i_rng (N := n + 1) (by rw [nI_toInt (by omega)]; omega) hc9
    obtain ⟨r, hr, htr⟩ := hrow i (by omega)
    refine V_aload dX11_stockAsBegan_12 rfl ?_
    refine V_getRs fk_X11_29 dX11_stockAsBegan_13 (by assumption) h1 ?_
    refine V_iload dX11_stockAsBegan_16 rfl ?_
    refine V_aalds (j := 5) dX11_stockAsBegan_17 rfl (by decide) h2 hv (by omega) (by decide) hr ?_
    refine V_ifnonnull dX11_stockAsBegan_18 (fun a18 hs18 => ?_) (fun hn18 => ?_)
    · refine V_aload dX11_stockAsBegan_23 rfl ?_
      refine V_getRs fk_X11_29 dX11_stockAsBegan_24 (by assumption) h1 ?_
      refine V_iload dX11_stockAsBegan_27 rfl ?_
      refine V_aalds (j := 5) dX11_stockAsBegan_28 rfl (by decide) h2 hv (by omega) (by decide) hr ?_
      refine V_aload dX11_stockAsBegan_29 rfl ?_
      refine V_getIs fk_X11_292 dX11_stockAsBegan_30 (by assumption) hk ?_
      refine V_iald dX11_stockAsBegan_33 htr rfl hk2 (by decide) ?_
      exact V_iret dX11_stockAsBegan_34 rfl (by decide) (by decide) (q i r (by omega) hv hr)
    · exact absurd hn18 (by simp)
