-- BUYING AND SENDING, in the class
theorem lotI_off {I : MI} {o f a : Nat} {mk md g mr c cm : Int32} (h : a ≠ o) : lotI I o mk md g mr c cm f a = I f a := by
  unfold lotI
  rw [up2o h, up2o h, up2o h, up2o h, up2o h, up2o h, up2o h]
theorem Chain.tag {t : TT} {R : MR} : ∀ (ch : List Nat) (r : Option Nat), Chain t R r ch → ∀ a ∈ ch, (t a).1 = 4
  | [], _, _, a, ha => absurd ha List.not_mem_nil
  | b :: bs, r, h, a, ha => by
    rcases List.mem_cons.mp ha with rfl | ha
    · exact h.2.1
    · exact Chain.tag bs _ h.2.2 a ha
theorem Chain.made {t : TT} {R : MR} {z : Nat} {τ : Nat × Nat} {v : Option Nat} : ∀ (ch : List Nat) (r : Option Nat), Chain t R r ch → (∀ a ∈ ch, a < z) → Chain (va_up t z τ) (up2 (zR R z) 300 z v) r ch
  | [], _, h, _ => h
  | a :: as, r, h, hz => by
    obtain ⟨h1, h2, h3⟩ := h
    have := hz a List.mem_cons_self
    refine ⟨h1, by rw [va_up_ne _ _ (by omega)]; exact h2, ?_⟩
    rw [up2n (by decide), zR_ne _ _ (by omega)]
    exact Chain.made as _ h3 (fun b hb => hz b (List.mem_cons_of_mem _ hb))
def buyOk (p mk k c g pr : Int32) (n : Nat) : Prop := (0 ≤ p ∧ p ≤ 7) ∧ (0 ≤ mk ∧ mk ≤ 9) ∧ (0 ≤ k ∧ k ≤ 3) ∧ (1 ≤ c ∧ c ≤ 5000) ∧ (0 ≤ g ∧ g ≤ 7) ∧ (0 ≤ pr ∧ pr ≤ 100000) ∧ n < 300
set_option maxHeartbeats 4000000 in
theorem sem_X11_buy {l : Launch} {D : va_G} {A : Nat → Prop} {z : Nat} {t : TT} {I : MI} {R : MR} {J : MI} {B : MR} {x n w : Nat} {p mk k c g pr : Int32} {ch : List Nat} {Φ : PP} (hX : XSt x t I R B) (hz : x + 141 ≤ z) (hA : ∀ q, z ≤ q → A q) (hn : I 401 (x + 127) = nI n) (hn2 : n ≤ 300) (hw : I 1111 x = nI w) (hch : Chain t R (R 402 (x + 127)) ch) (hnd : ch.Nodup) (q0 : ¬ buyOk p mk k c g pr n → Φ (some (.int (-1))) z t I R J B) (q : ∀ (i j : Nat) (R' : MR), i < 8 → j < 4 → p = nI i → k = nI j → buyOk p mk k c g pr n → Linked (va_up t z (4, 0)) (x + 127) z ((lotI (zI I z) z mk (nI w) g (nI n) c (-1)) 302) ch (up2 (zR R z) 300 z (some (xSo x (4 * i + j)))) R' → Φ (some (.int (nI n))) (z + 1) (va_up t z (4, 0)) (up2 (up2 (up2 (lotI (zI I z) z mk (nI w) g (nI n) c (-1)) 308 z pr) 1112 x (I 1112 x + c)) 401 (x + 127) (nI (n + 1))) R' J (va_up B (x + 128) (va_up (B (x + 128)) n (some z)))) : Sem l D A 2 1 14 mX11_buy [va_rf (some x), .int p, .int mk, .int k, .int c, .int g, .int pr] z t I R J B Φ := by
  refine Sem.run [some (va_rf (some x)), some (.int p), some (.int mk), some (.int k), some (.int c), some (.int g), some (.int pr), none, none] (by decide) rfl (ent_r (ent_i (ent_i (ent_i (ent_i (ent_i (ent_i (ent_none (ent_none ent_nil))))))))) ?_
  refine V.lt (fun hlt => ?_)
  have hcz : ∀ a ∈ ch, a < z := fun a ha => hlt a (by rw [Chain.tag ch _ hch a ha]; decide)
  refine V_aload dX11_buy_0 rfl ?_
  refine V_iload dX11_buy_1 rfl ?_
  refine V_iload dX11_buy_2 rfl ?_
  refine V_invV (As := [_, _]) mv_X11_storeOf lk_X11_110 dX11_buy_3 (c := 11) (by decide) rfl rfl hX.hx rfl rfl (Nat.le_of_ble_eq_true rfl) ⟨⟨by decide, by decide⟩, by decide, by decide⟩ (sem_X11_storeOf hX.hx hX.so.1 hX.so.2.1 (fun ho3 => ?_) (fun i j hi hj hvi hvj => ?_))
  · refine V_as7 dX11_buy_6 (by decide) (noL_i _) ?_
    refine V_aload dX11_buy_8 rfl ?_
    refine V_ifnull dX11_buy_10 (fun hn10 => ?_) (fun a10 hs10 => ?_)
    · refine V_const dX11_buy_35 ?_
      exact V_iret dX11_buy_36 rfl (by decide) (by decide) (q0 (fun h => ho3 ⟨h.1.1, h.1.2, h.2.2.1.1, h.2.2.1.2⟩))
    · exact absurd hs10 (by simp)
  · rw [(hX.so.2.2 (4 * i + j) (by omega)).1]
    refine V_as7 dX11_buy_6 (by decide) (noL_i _) ?_
    refine V_aload dX11_buy_8 rfl ?_
    refine V_ifnull dX11_buy_10 (fun hn10 => ?_) (fun a10 hs10 => ?_)
    · exact absurd hn10 (by simp)
    · cases hs10
      refine V_iload dX11_buy_13 rfl ?_
      refine V_const dX11_buy_14 ?_
      refine V_const dX11_buy_15 ?_
      refine V_invS (As := [_, _, _]) ms_X11_within lk_X11_89 dX11_buy_17 rfl rfl rfl (Nat.le_of_ble_eq_true rfl) ⟨⟨by decide, by decide⟩, by decide, by decide⟩ (sem_X11_within ?_)
      refine V_if_eq dX11_buy_20 (fun hc20 => ?_) (fun hc20 => ?_)
      · rw [bI_0] at hc20
        refine V_const dX11_buy_35 ?_
        exact V_iret dX11_buy_36 rfl (by decide) (by decide) (q0 (fun h => hc20 h.2.1))
      · rw [bI_n0] at hc20
        refine V_iload dX11_buy_23 rfl ?_
        refine V_const dX11_buy_25 ?_
        refine V_const dX11_buy_26 ?_
        refine V_invS (As := [_, _, _]) ms_X11_within lk_X11_89 dX11_buy_29 rfl rfl rfl (Nat.le_of_ble_eq_true rfl) ⟨⟨by decide, by decide⟩, by decide, by decide⟩ (sem_X11_within ?_)
        refine V_if_ne dX11_buy_32 (fun hc32 => ?_) (fun hc32 => ?_)
        · rw [bI_n0] at hc32
          refine V_iload dX11_buy_37 rfl ?_
          refine V_const dX11_buy_39 ?_
          refine V_const dX11_buy_40 ?_
          refine V_invS (As := [_, _, _]) ms_X11_within lk_X11_89 dX11_buy_42 rfl rfl rfl (Nat.le_of_ble_eq_true rfl) ⟨⟨by decide, by decide⟩, by decide, by decide⟩ (sem_X11_within ?_)
          refine V_if_eq dX11_buy_45 (fun hc45 => ?_) (fun hc45 => ?_)
          · rw [bI_0] at hc45
            refine V_const dX11_buy_69 ?_
            exact V_iret dX11_buy_70 rfl (by decide) (by decide) (q0 (fun h => hc45 h.2.2.2.2.1))
          · rw [bI_n0] at hc45
            refine V_iload dX11_buy_48 rfl ?_
            refine V_const dX11_buy_50 ?_
            refine V_ldc kk_X11_114 dX11_buy_51 ?_
            refine V_invS (As := [_, _, _]) ms_X11_within lk_X11_89 dX11_buy_53 rfl rfl rfl (Nat.le_of_ble_eq_true rfl) ⟨⟨by decide, by decide⟩, by decide, by decide⟩ (sem_X11_within ?_)
            refine V_if_eq dX11_buy_56 (fun hc56 => ?_) (fun hc56 => ?_)
            · rw [bI_0] at hc56
              refine V_const dX11_buy_69 ?_
              exact V_iret dX11_buy_70 rfl (by decide) (by decide) (q0 (fun h => hc56 h.2.2.2.2.2.1))
            · rw [bI_n0] at hc56
              refine V_aload dX11_buy_59 rfl ?_
              refine V_getRs fk_X11_47 dX11_buy_60 hX.hx hX.lo.1 ?_
              refine V_invV (As := []) mv_X4_isFull lk_X11_115 dX11_buy_63 (c := 4) (by decide) rfl rfl hX.lo.2.1 rfl rfl (Nat.le_of_ble_eq_true rfl) ⟨⟨by decide, by decide⟩, by decide, by decide⟩ (sem_X4_isFull hX.lo.2.1 ?_)
              refine V_if_eq dX11_buy_66 (fun hc66 => ?_) (fun hc66 => ?_)
              · rw [bI_0, hn] at hc66
                have hn3 : n < 300 := by
                  rcases Nat.lt_or_ge n 300 with h | h
                  · exact h
                  · exact absurd (nI_le h (by omega)) hc66
                have hp7 : 0 ≤ p ∧ p ≤ 7 := by
                  have h1 : p.toInt = (i : Int) := by rw [hvi]; exact nI_toInt (by omega)
                  rw [i_le, i_le, h1]; constructor
                  · show (0 : Int) ≤ _; omega
                  · show _ ≤ (7 : Int); omega
                have hk3 : 0 ≤ k ∧ k ≤ 3 := by
                  have h1 : k.toInt = (j : Int) := by rw [hvj]; exact nI_toInt (by omega)
                  rw [i_le, i_le, h1]; constructor
                  · show (0 : Int) ≤ _; omega
                  · show _ ≤ (3 : Int); omega
                refine V_new (c := 3) (by decide) rfl rfl ck_X11_119 wn_X3 wi_X3 (hA _ (Nat.le_refl _)) (by decide) (by decide) dX11_buy_71 ?_
                have hX2 : XSt x (va_up t z (4, 0)) (zI I z) (zR R z) B := hX.made hz
                have hX3 : XSt x (va_up t z (4, 0)) (zI I z) (up2 (zR R z) 300 z (some (xSo x (4 * i + j)))) B := (hX.made hz).mono (fun _ _ => rfl) (fun _ _ _ _ => rfl) (fun f a ha _ => up2o (by omega)) (fun _ _ _ _ _ _ => rfl)
                refine V_dupr dX11_buy_74 ?_
                refine V_aload dX11_buy_75 rfl ?_
                refine V_iload dX11_buy_77 rfl ?_
                refine V_aload dX11_buy_78 rfl ?_
                refine V_getIs fk_X11_121 dX11_buy_79 hX2.hx ((zI_ne _ _ (by omega)).trans hw) ?_
                refine V_iload dX11_buy_82 rfl ?_
                refine V_aload dX11_buy_84 rfl ?_
                refine V_getRs fk_X11_47 dX11_buy_85 hX2.hx hX2.lo.1 ?_
                refine V_getIs fk_X11_124 dX11_buy_88 hX2.lo.2.1 ((zI_ne _ _ (by omega)).trans hn) ?_
                refine V_iload dX11_buy_91 rfl ?_
                refine V_const dX11_buy_93 ?_
                refine V_invI (As := [_, _, _, _, _, _, _]) mc_X3_init lk_X11_127 dX11_buy_94 rfl rfl (Nat.le_of_ble_eq_true rfl) ⟨⟨by decide, by decide⟩, by decide, by decide⟩ (sem_X3_init (by rw [va_up_self]) ?_)
                refine V_as8 dX11_buy_97 (by decide) (noL_r _) ?_
                refine V_aload dX11_buy_99 rfl ?_
                refine V_iload dX11_buy_101 rfl ?_
                refine V_putI fk_X11_130 (Or.inl rfl) rfl rfl dX11_buy_103 (by rw [va_up_self]) ?_
                refine V_aload dX11_buy_106 rfl ?_
                refine V_dupr dX11_buy_107 ?_
                refine V_getIs fk_X11_133 dX11_buy_108 hX2.hx ((up2n (by decide)).trans ((lotI_off (by omega)).trans (zI_ne _ _ (by omega)))) ?_
                refine V_iload dX11_buy_111 rfl ?_
                refine V_iadd dX11_buy_113 ?_
                refine V_putI fk_X11_133 (Or.inl rfl) rfl rfl dX11_buy_114 hX2.hx ?_
                refine V_aload dX11_buy_117 rfl ?_
                refine V_getRs fk_X11_47 dX11_buy_118 hX2.hx hX3.lo.1 ?_
                refine V_aload dX11_buy_121 rfl ?_
                refine V_invV (As := [_]) mv_X4_enter lk_X11_136 dX11_buy_123 (c := 4) (by decide) rfl rfl hX2.lo.2.1 rfl rfl (Nat.le_of_ble_eq_true rfl) ⟨⟨by decide, by decide⟩, by decide, by decide⟩ (sem_X4_enter hX3.lo.2.1 hX3.lo.2.2.1 hX3.lo.2.2.2 ((up2n (by decide)).trans ((up2n (by decide)).trans ((lotI_off (by omega)).trans ((zI_ne _ _ (by omega)).trans hn)))) hn3 (by rw [va_up_self]) (by rw [up2n (by decide), zR_ne _ _ (by omega)]; exact Chain.made ch _ hch hcz) (fun h => Nat.lt_irrefl _ (hcz _ h)) hnd (by rw [up2n (by decide), zR_self]) (fun R' hL => ?_))
                exact V_iret dX11_buy_126 rfl (by decide) (by decide) (q i j R' hi hj hvi hvj ⟨hp7, hc20, hk3, hc32, hc45, hc56, hn3⟩ (by rw [up2_ne _ _ _ (by decide), up2_ne _ _ _ (by decide)] at hL; exact hL))
              · rw [bI_n0, hn] at hc66
                refine V_const dX11_buy_69 ?_
                exact V_iret dX11_buy_70 rfl (by decide) (by decide) (q0 (fun h => absurd hc66 (nI_ge h.2.2.2.2.2.2 (by decide))))
        · rw [bI_0] at hc32
          refine V_const dX11_buy_35 ?_
          exact V_iret dX11_buy_36 rfl (by decide) (by decide) (q0 (fun h => hc32 h.2.2.2.1))
def sendOk (I : MI) (a n s : Nat) (to c : Int32) : Prop := I 307 a = -1 ∧ (1 ≤ c ∧ c ≤ I 306 a) ∧ n < 300 ∧ (0 ≤ to ∧ to ≤ 7) ∧ to ≠ nI (s / 4)
set_option maxHeartbeats 4000000 in
theorem sem_X11_send {l : Launch} {D : va_G} {A : Nat → Prop} {z : Nat} {t : TT} {I : MI} {R : MR} {J : MI} {B : MR} {x n w : Nat} {lt to c : Int32} {la si : Nat → Nat} {ch : List Nat} {Φ : PP} (hX : XSt x t I R B) (hz : x + 141 ≤ z) (hA : ∀ q, z ≤ q → A q) (hn : I 401 (x + 127) = nI n) (hn2 : n ≤ 300) (hw : I 1111 x = nI w) (hla : ∀ i, i < n → B (x + 128) i = some (la i) ∧ (t (la i)).1 = 4 ∧ R 300 (la i) = some (xSo x (si (la i))) ∧ si (la i) < 32) (hch : Chain t R (R 402 (x + 127)) ch) (hnd : ch.Nodup) (q0 : (∀ i, i < n → lt = nI i → ¬ sendOk I (la i) n (si (la i)) to c) → Φ (some (.int (-1))) z t I R J B) (q : ∀ (v i : Nat) (R' : MR), v < n → i < 8 → lt = nI v → to = nI i → sendOk I (la v) n (si (la v)) to c → Linked (va_up t z (4, 0)) (x + 127) z ((lotI (zI I z) z (I 301 (la v)) (I 302 (la v)) (I 303 (la v)) (I 304 (la v)) c (nI w + J (x + 7 + si (la v) / 4) i)) 302) ch (up2 (zR R z) 300 z (some (xSo x (4 * i + si (la v) % 4)))) R' → Φ (some (.int (nI n))) (z + 1) (va_up t z (4, 0)) (up2 (up2 (lotI (zI I z) z (I 301 (la v)) (I 302 (la v)) (I 303 (la v)) (I 304 (la v)) c (nI w + J (x + 7 + si (la v) / 4) i)) 306 (la v) (I 306 (la v) - c)) 401 (x + 127) (nI (n + 1))) R' J (va_up B (x + 128) (va_up (B (x + 128)) n (some z)))) : Sem l D A 2 1 14 mX11_send [va_rf (some x), .int lt, .int to, .int c] z t I R J B Φ := by
  refine Sem.run [some (va_rf (some x)), some (.int lt), some (.int to), some (.int c), none, none, none, none, none] (by decide) rfl (ent_r (ent_i (ent_i (ent_i (ent_none (ent_none (ent_none (ent_none (ent_none ent_nil))))))))) ?_
  refine V.lt (fun hlt => ?_)
  have hcz : ∀ a ∈ ch, a < z := fun a ha => hlt a (by rw [Chain.tag ch _ hch a ha]; decide)
  refine V_aload dX11_send_0 rfl ?_
  refine V_getRs fk_X11_47 dX11_send_1 hX.hx hX.lo.1 ?_
  refine V_iload dX11_send_4 rfl ?_
  refine V_invV (As := [_]) mv_X4_numbered lk_X11_140 dX11_send_5 (c := 4) (by decide) rfl rfl hX.lo.2.1 rfl rfl (Nat.le_of_ble_eq_true rfl) ⟨⟨by decide, by decide⟩, by decide, by decide⟩ (sem_X4_numbered hX.lo.2.1 hX.lo.2.2.1 hX.lo.2.2.2 hn hn2 (fun ho5 => ?_) (fun v hv hvv => ?_))
  · refine V_as4 dX11_send_8 (by decide) (noL_i _) ?_
    refine V_aload dX11_send_10 rfl ?_
    refine V_ifnull dX11_send_12 (fun hn12 => ?_) (fun a12 hs12 => ?_)
    · refine V_const dX11_send_46 ?_
      exact V_iret dX11_send_47 rfl (by decide) (by decide) (q0 (fun i hi e => absurd e (ho5 i hi)))
    · exact absurd hs12 (by simp)
  · obtain ⟨hb, hta, hsi, hsl⟩ := hla v hv
    have hk4 : si (la v) % 4 < 4 := Nat.mod_lt _ (by decide)
    have hp8 : si (la v) / 4 < 8 := by omega
    rw [hb]
    refine V_as4 dX11_send_8 (by decide) (noL_i _) ?_
    refine V_aload dX11_send_10 rfl ?_
    refine V_ifnull dX11_send_12 (fun hn12 => ?_) (fun a12 hs12 => ?_)
    · exact absurd hn12 (by simp)
    · cases hs12
      refine V_aload dX11_send_15 rfl ?_
      refine V_invV (As := []) mv_X3_isThere lk_X11_144 dX11_send_17 (c := 3) (by decide) rfl rfl hta rfl rfl (Nat.le_of_ble_eq_true rfl) ⟨⟨by decide, by decide⟩, by decide, by decide⟩ (sem_X3_isThere hta ?_)
      refine V_if_eq dX11_send_20 (fun hc20 => ?_) (fun hc20 => ?_)
      · rw [bI_0] at hc20
        refine V_const dX11_send_46 ?_
        exact V_iret dX11_send_47 rfl (by decide) (by decide) (q0 (fun i hi e h => hc20 (by have e2 : i = v := (nI_eq (by omega) (by omega)).mp (e.symm.trans hvv); subst e2; exact h.1)))
      · rw [bI_n0] at hc20
        refine V_iload dX11_send_23 rfl ?_
        refine V_const dX11_send_24 ?_
        refine V_aload dX11_send_25 rfl ?_
        refine V_getI fk_X11_147 dX11_send_27 hta ?_
        refine V_invS (As := [_, _, _]) ms_X11_within lk_X11_89 dX11_send_30 rfl rfl rfl (Nat.le_of_ble_eq_true rfl) ⟨⟨by decide, by decide⟩, by decide, by decide⟩ (sem_X11_within ?_)
        refine V_if_eq dX11_send_33 (fun hc33 => ?_) (fun hc33 => ?_)
        · rw [bI_0] at hc33
          refine V_const dX11_send_46 ?_
          exact V_iret dX11_send_47 rfl (by decide) (by decide) (q0 (fun i hi e h => hc33 (by have e2 : i = v := (nI_eq (by omega) (by omega)).mp (e.symm.trans hvv); subst e2; exact h.2.1)))
        · rw [bI_n0] at hc33
          refine V_aload dX11_send_36 rfl ?_
          refine V_getRs fk_X11_47 dX11_send_37 hX.hx hX.lo.1 ?_
          refine V_invV (As := []) mv_X4_isFull lk_X11_115 dX11_send_40 (c := 4) (by decide) rfl rfl hX.lo.2.1 rfl rfl (Nat.le_of_ble_eq_true rfl) ⟨⟨by decide, by decide⟩, by decide, by decide⟩ (sem_X4_isFull hX.lo.2.1 ?_)
          refine V_if_eq dX11_send_43 (fun hc43 => ?_) (fun hc43 => ?_)
          · rw [bI_0, hn] at hc43
            have hn3 : n < 300 := by
              rcases Nat.lt_or_ge n 300 with h | h
              · exact h
              · exact absurd (nI_le h (by omega)) hc43
            refine V_aload dX11_send_48 rfl ?_
            refine V_getRs fk_X11_150 dX11_send_50 hta hsi ?_
            refine V_getRs fk_X11_154 dX11_send_53 (hX.so.2.2 _ hsl).2.1 (hX.so.2.2 _ hsl).2.2.2.1 ?_
            refine V_getIs fk_X11_158 dX11_send_56 (hX.pl.2.2 _ hp8).2.1 (hX.pl.2.2 _ hp8).2.2 ?_
            refine V_is5 dX11_send_59 (by decide) (noL_r _) ?_
            refine V_aload dX11_send_61 rfl ?_
            refine V_iload dX11_send_62 rfl ?_
            refine V_aload dX11_send_63 rfl ?_
            refine V_getRs fk_X11_150 dX11_send_65 hta hsi ?_
            refine V_getRs fk_X11_161 dX11_send_68 (hX.so.2.2 _ hsl).2.1 (hX.so.2.2 _ hsl).2.2.2.2.1 ?_
            refine V_getIs fk_X11_165 dX11_send_71 (hX.kd.2.2 _ hk4).2.1 (hX.kd.2.2 _ hk4).2.2.1 ?_
            refine V_invV (As := [_, _]) mv_X11_storeOf lk_X11_110 dX11_send_74 (c := 11) (by decide) rfl rfl hX.hx rfl rfl (Nat.le_of_ble_eq_true rfl) ⟨⟨by decide, by decide⟩, by decide, by decide⟩ (sem_X11_storeOf hX.hx hX.so.1 hX.so.2.1 (fun ho74 => ?_) (fun i j hi hj hvi hvj => ?_))
            · refine V_as6 dX11_send_77 (by decide) (noL_i _) ?_
              refine V_aload dX11_send_79 rfl ?_
              refine V_ifnull dX11_send_81 (fun hn81 => ?_) (fun a81 hs81 => ?_)
              · refine V_const dX11_send_90 ?_
                exact V_iret dX11_send_91 rfl (by decide) (by decide) (q0 (fun i hi e h => ho74 ⟨h.2.2.2.1.1, h.2.2.2.1.2, nI_pos' (by omega), show nI _ ≤ nI 3 from nI_le (by omega) (by decide)⟩))
              · exact absurd hs81 (by simp)
            · have hjj : j = si (la v) % 4 := ((nI_eq (by omega) (by omega)).mp hvj).symm
              subst hjj
              rw [(hX.so.2.2 (4 * i + si (la v) % 4) (by omega)).1]
              refine V_as6 dX11_send_77 (by decide) (noL_i _) ?_
              refine V_aload dX11_send_79 rfl ?_
              refine V_ifnull dX11_send_81 (fun hn81 => ?_) (fun a81 hs81 => ?_)
              · exact absurd hn81 (by simp)
              · cases hs81
                refine V_iload dX11_send_84 rfl ?_
                refine V_iload dX11_send_85 rfl ?_
                refine V_icmp_ne dX11_send_87 (fun hc87 => ?_) (fun hc87 => ?_)
                · refine V_aload dX11_send_92 rfl ?_
                  refine V_getIs fk_X11_121 dX11_send_93 hX.hx hw ?_
                  refine V_aload dX11_send_96 rfl ?_
                  refine V_getRs fk_X11_34 dX11_send_97 hX.hx hX.wy.1 ?_
                  refine V_iload dX11_send_100 rfl ?_
                  refine V_aalds (j := 5) dX11_send_102 rfl (by decide) hX.wy.2.1 rfl hp8 (by decide) (hX.wy.2.2 _ hp8).1 ?_
                  refine V_iload dX11_send_103 rfl ?_
                  refine V_iald dX11_send_104 (hX.wy.2.2 _ hp8).2 hvi hi (by decide) ?_
                  refine V_iadd dX11_send_105 ?_
                  refine V_is7 dX11_send_106 (by decide) (noL_r _) ?_
                  refine V_new (c := 3) (by decide) rfl rfl ck_X11_119 wn_X3 wi_X3 (hA _ (Nat.le_refl _)) (by decide) (by decide) dX11_send_108 ?_
                  have hX2 : XSt x (va_up t z (4, 0)) (zI I z) (zR R z) B := hX.made hz
                  have hX3 : XSt x (va_up t z (4, 0)) (zI I z) (up2 (zR R z) 300 z (some (xSo x (4 * i + si (la v) % 4)))) B := (hX.made hz).mono (fun _ _ => rfl) (fun _ _ _ _ => rfl) (fun f a ha _ => up2o (by omega)) (fun _ _ _ _ _ _ => rfl)
                  have hlz : la v < z := hlt _ (by rw [hta]; decide)
                  have hta2 : (va_up t z (4, 0) (la v)).1 = 4 := by rw [va_up_ne _ _ (by omega)]; exact hta
                  refine V_dupr dX11_send_111 ?_
                  refine V_aload dX11_send_112 rfl ?_
                  refine V_aload dX11_send_114 rfl ?_
                  refine V_getIs fk_X11_166 dX11_send_116 hta2 (zI_ne _ _ (by omega)) ?_
                  refine V_aload dX11_send_119 rfl ?_
                  refine V_getIs fk_X11_169 dX11_send_121 hta2 (zI_ne _ _ (by omega)) ?_
                  refine V_aload dX11_send_124 rfl ?_
                  refine V_getIs fk_X11_172 dX11_send_126 hta2 (zI_ne _ _ (by omega)) ?_
                  refine V_aload dX11_send_129 rfl ?_
                  refine V_getIs fk_X11_175 dX11_send_131 hta2 (zI_ne _ _ (by omega)) ?_
                  refine V_iload dX11_send_134 rfl ?_
                  refine V_iload dX11_send_135 rfl ?_
                  refine V_invI (As := [_, _, _, _, _, _, _]) mc_X3_init lk_X11_127 dX11_send_137 rfl rfl (Nat.le_of_ble_eq_true rfl) ⟨⟨by decide, by decide⟩, by decide, by decide⟩ (sem_X3_init (by rw [va_up_self]) ?_)
                  refine V_as8 dX11_send_140 (by decide) (noL_i _) ?_
                  refine V_aload dX11_send_142 rfl ?_
                  refine V_dupr dX11_send_144 ?_
                  refine V_getIs fk_X11_147 dX11_send_145 hta2 ((lotI_off (by omega)).trans (zI_ne _ _ (by omega))) ?_
                  refine V_iload dX11_send_148 rfl ?_
                  refine V_isub dX11_send_149 ?_
                  refine V_putI fk_X11_147 (Or.inl rfl) rfl rfl dX11_send_150 hta2 ?_
                  refine V_aload dX11_send_153 rfl ?_
                  refine V_getRs fk_X11_47 dX11_send_154 hX2.hx hX3.lo.1 ?_
                  refine V_aload dX11_send_157 rfl ?_
                  refine V_invV (As := [_]) mv_X4_enter lk_X11_136 dX11_send_159 (c := 4) (by decide) rfl rfl hX2.lo.2.1 rfl rfl (Nat.le_of_ble_eq_true rfl) ⟨⟨by decide, by decide⟩, by decide, by decide⟩ (sem_X4_enter hX3.lo.2.1 hX3.lo.2.2.1 hX3.lo.2.2.2 ((up2n (by decide)).trans ((lotI_off (by omega)).trans ((zI_ne _ _ (by omega)).trans hn))) hn3 (by rw [va_up_self]) (by rw [up2n (by decide), zR_ne _ _ (by omega)]; exact Chain.made ch _ hch hcz) (fun h => Nat.lt_irrefl _ (hcz _ h)) hnd (by rw [up2n (by decide), zR_self]) (fun R' hL => ?_))
                  exact V_iret dX11_send_162 rfl (by decide) (by decide) (q v i R' hv hi hvv hvi ⟨hc20, hc33, hn3, ⟨by rw [hvi]; exact nI_pos' (by omega), by rw [hvi]; exact (show nI i ≤ nI 7 from nI_le (by omega) (by decide))⟩, hc87⟩ (by rw [up2_ne _ _ _ (by decide)] at hL; exact hL))
                · refine V_const dX11_send_90 ?_
                  exact V_iret dX11_send_91 rfl (by decide) (by decide) (q0 (fun i hi e h => h.2.2.2.2 (by have e2 : i = v := (nI_eq (by omega) (by omega)).mp (e.symm.trans hvv); subst e2; exact hc87)))
          · rw [bI_n0, hn] at hc43
            refine V_const dX11_send_46 ?_
            exact V_iret dX11_send_47 rfl (by decide) (by decide) (q0 (fun i hi e h => absurd hc43 (nI_ge h.2.2.1 (by decide))))
