-- THE REFERENCE: its cells; its first methods
/-- the reference at m: its arrays lie behind it, in the order in which they are made -/
def MSt (m : Nat) (t : TT) (R : MR) : Prop := (t m).1 = 13 ∧ (R 1205 m = some (m + 1) ∧ t (m + 1) = (20, 8)) ∧ (R 1206 m = some (m + 2) ∧ t (m + 2) = (20, 4)) ∧ (R 1207 m = some (m + 3) ∧ t (m + 3) = (20, 40)) ∧ (R 1208 m = some (m + 4) ∧ t (m + 4) = (20, 64)) ∧ (R 1209 m = some (m + 5) ∧ t (m + 5) = (20, 8)) ∧ (R 1210 m = some (m + 6) ∧ t (m + 6) = (20, 300)) ∧ (R 1211 m = some (m + 7) ∧ t (m + 7) = (20, 300)) ∧ (R 1212 m = some (m + 8) ∧ t (m + 8) = (20, 300)) ∧ (R 1213 m = some (m + 9) ∧ t (m + 9) = (20, 300)) ∧ (R 1214 m = some (m + 10) ∧ t (m + 10) = (20, 300)) ∧ (R 1215 m = some (m + 11) ∧ t (m + 11) = (20, 300)) ∧ (R 1216 m = some (m + 12) ∧ t (m + 12) = (20, 300)) ∧ (R 1217 m = some (m + 13) ∧ t (m + 13) = (20, 300)) ∧ (R 1218 m = some (m + 14) ∧ t (m + 14) = (20, 300)) ∧ (R 1219 m = some (m + 15) ∧ t (m + 15) = (20, 300)) ∧ (R 1220 m = some (m + 16) ∧ t (m + 16) = (20, 300)) ∧ (R 1221 m = some (m + 17) ∧ t (m + 17) = (20, 300)) ∧ (R 1222 m = some (m + 18) ∧ t (m + 18) = (20, 300)) ∧ (R 1223 m = some (m + 19) ∧ t (m + 19) = (20, 32)) ∧ (R 1224 m = some (m + 20) ∧ t (m + 20) = (20, 32)) ∧ (R 1225 m = some (m + 21) ∧ t (m + 21) = (20, 32)) ∧ (R 1226 m = some (m + 22) ∧ t (m + 22) = (20, 6432)) ∧ (R 1227 m = some (m + 23) ∧ t (m + 23) = (20, 300)) ∧ (R 1228 m = some (m + 24) ∧ t (m + 24) = (20, 300)) ∧ (R 1229 m = some (m + 25) ∧ t (m + 25) = (20, 4)) ∧ (R 1230 m = some (m + 26) ∧ t (m + 26) = (20, 220)) ∧ (R 1233 m = some (m + 27) ∧ t (m + 27) = (20, 10)) ∧ (R 1234 m = some (m + 28) ∧ t (m + 28) = (20, 440)) ∧ (R 1235 m = some (m + 29) ∧ t (m + 29) = (20, 440)) ∧ (R 1236 m = some (m + 30) ∧ t (m + 30) = (20, 440)) ∧ (R 1237 m = some (m + 31) ∧ t (m + 31) = (20, 440)) ∧ (R 1239 m = some (m + 32) ∧ t (m + 32) = (20, 5000)) ∧ (R 1240 m = some (m + 33) ∧ t (m + 33) = (20, 200)) ∧ (R 1241 m = some (m + 34) ∧ t (m + 34) = (20, 200)) ∧ (R 1242 m = some (m + 35) ∧ t (m + 35) = (20, 200))
theorem MSt.a1205 {m : Nat} {t : TT} {R : MR} (h : MSt m t R) : R 1205 m = some (m + 1) ∧ t (m + 1) = (20, 8) := h.2.1
theorem MSt.a1206 {m : Nat} {t : TT} {R : MR} (h : MSt m t R) : R 1206 m = some (m + 2) ∧ t (m + 2) = (20, 4) := h.2.2.1
theorem MSt.a1207 {m : Nat} {t : TT} {R : MR} (h : MSt m t R) : R 1207 m = some (m + 3) ∧ t (m + 3) = (20, 40) := h.2.2.2.1
theorem MSt.a1208 {m : Nat} {t : TT} {R : MR} (h : MSt m t R) : R 1208 m = some (m + 4) ∧ t (m + 4) = (20, 64) := h.2.2.2.2.1
theorem MSt.a1209 {m : Nat} {t : TT} {R : MR} (h : MSt m t R) : R 1209 m = some (m + 5) ∧ t (m + 5) = (20, 8) := h.2.2.2.2.2.1
theorem MSt.a1210 {m : Nat} {t : TT} {R : MR} (h : MSt m t R) : R 1210 m = some (m + 6) ∧ t (m + 6) = (20, 300) := h.2.2.2.2.2.2.1
theorem MSt.a1211 {m : Nat} {t : TT} {R : MR} (h : MSt m t R) : R 1211 m = some (m + 7) ∧ t (m + 7) = (20, 300) := h.2.2.2.2.2.2.2.1
theorem MSt.a1212 {m : Nat} {t : TT} {R : MR} (h : MSt m t R) : R 1212 m = some (m + 8) ∧ t (m + 8) = (20, 300) := h.2.2.2.2.2.2.2.2.1
theorem MSt.a1213 {m : Nat} {t : TT} {R : MR} (h : MSt m t R) : R 1213 m = some (m + 9) ∧ t (m + 9) = (20, 300) := h.2.2.2.2.2.2.2.2.2.1
theorem MSt.a1214 {m : Nat} {t : TT} {R : MR} (h : MSt m t R) : R 1214 m = some (m + 10) ∧ t (m + 10) = (20, 300) := h.2.2.2.2.2.2.2.2.2.2.1
theorem MSt.a1215 {m : Nat} {t : TT} {R : MR} (h : MSt m t R) : R 1215 m = some (m + 11) ∧ t (m + 11) = (20, 300) := h.2.2.2.2.2.2.2.2.2.2.2.1
theorem MSt.a1216 {m : Nat} {t : TT} {R : MR} (h : MSt m t R) : R 1216 m = some (m + 12) ∧ t (m + 12) = (20, 300) := h.2.2.2.2.2.2.2.2.2.2.2.2.1
theorem MSt.a1217 {m : Nat} {t : TT} {R : MR} (h : MSt m t R) : R 1217 m = some (m + 13) ∧ t (m + 13) = (20, 300) := h.2.2.2.2.2.2.2.2.2.2.2.2.2.1
theorem MSt.a1218 {m : Nat} {t : TT} {R : MR} (h : MSt m t R) : R 1218 m = some (m + 14) ∧ t (m + 14) = (20, 300) := h.2.2.2.2.2.2.2.2.2.2.2.2.2.2.1
theorem MSt.a1219 {m : Nat} {t : TT} {R : MR} (h : MSt m t R) : R 1219 m = some (m + 15) ∧ t (m + 15) = (20, 300) := h.2.2.2.2.2.2.2.2.2.2.2.2.2.2.2.1
theorem MSt.a1220 {m : Nat} {t : TT} {R : MR} (h : MSt m t R) : R 1220 m = some (m + 16) ∧ t (m + 16) = (20, 300) := h.2.2.2.2.2.2.2.2.2.2.2.2.2.2.2.2.1
theorem MSt.a1221 {m : Nat} {t : TT} {R : MR} (h : MSt m t R) : R 1221 m = some (m + 17) ∧ t (m + 17) = (20, 300) := h.2.2.2.2.2.2.2.2.2.2.2.2.2.2.2.2.2.1
theorem MSt.a1222 {m : Nat} {t : TT} {R : MR} (h : MSt m t R) : R 1222 m = some (m + 18) ∧ t (m + 18) = (20, 300) := h.2.2.2.2.2.2.2.2.2.2.2.2.2.2.2.2.2.2.1
theorem MSt.a1223 {m : Nat} {t : TT} {R : MR} (h : MSt m t R) : R 1223 m = some (m + 19) ∧ t (m + 19) = (20, 32) := h.2.2.2.2.2.2.2.2.2.2.2.2.2.2.2.2.2.2.2.1
theorem MSt.a1224 {m : Nat} {t : TT} {R : MR} (h : MSt m t R) : R 1224 m = some (m + 20) ∧ t (m + 20) = (20, 32) := h.2.2.2.2.2.2.2.2.2.2.2.2.2.2.2.2.2.2.2.2.1
theorem MSt.a1225 {m : Nat} {t : TT} {R : MR} (h : MSt m t R) : R 1225 m = some (m + 21) ∧ t (m + 21) = (20, 32) := h.2.2.2.2.2.2.2.2.2.2.2.2.2.2.2.2.2.2.2.2.2.1
theorem MSt.a1226 {m : Nat} {t : TT} {R : MR} (h : MSt m t R) : R 1226 m = some (m + 22) ∧ t (m + 22) = (20, 6432) := h.2.2.2.2.2.2.2.2.2.2.2.2.2.2.2.2.2.2.2.2.2.2.1
theorem MSt.a1227 {m : Nat} {t : TT} {R : MR} (h : MSt m t R) : R 1227 m = some (m + 23) ∧ t (m + 23) = (20, 300) := h.2.2.2.2.2.2.2.2.2.2.2.2.2.2.2.2.2.2.2.2.2.2.2.1
theorem MSt.a1228 {m : Nat} {t : TT} {R : MR} (h : MSt m t R) : R 1228 m = some (m + 24) ∧ t (m + 24) = (20, 300) := h.2.2.2.2.2.2.2.2.2.2.2.2.2.2.2.2.2.2.2.2.2.2.2.2.1
theorem MSt.a1229 {m : Nat} {t : TT} {R : MR} (h : MSt m t R) : R 1229 m = some (m + 25) ∧ t (m + 25) = (20, 4) := h.2.2.2.2.2.2.2.2.2.2.2.2.2.2.2.2.2.2.2.2.2.2.2.2.2.1
theorem MSt.a1230 {m : Nat} {t : TT} {R : MR} (h : MSt m t R) : R 1230 m = some (m + 26) ∧ t (m + 26) = (20, 220) := h.2.2.2.2.2.2.2.2.2.2.2.2.2.2.2.2.2.2.2.2.2.2.2.2.2.2.1
theorem MSt.a1233 {m : Nat} {t : TT} {R : MR} (h : MSt m t R) : R 1233 m = some (m + 27) ∧ t (m + 27) = (20, 10) := h.2.2.2.2.2.2.2.2.2.2.2.2.2.2.2.2.2.2.2.2.2.2.2.2.2.2.2.1
theorem MSt.a1234 {m : Nat} {t : TT} {R : MR} (h : MSt m t R) : R 1234 m = some (m + 28) ∧ t (m + 28) = (20, 440) := h.2.2.2.2.2.2.2.2.2.2.2.2.2.2.2.2.2.2.2.2.2.2.2.2.2.2.2.2.1
theorem MSt.a1235 {m : Nat} {t : TT} {R : MR} (h : MSt m t R) : R 1235 m = some (m + 29) ∧ t (m + 29) = (20, 440) := h.2.2.2.2.2.2.2.2.2.2.2.2.2.2.2.2.2.2.2.2.2.2.2.2.2.2.2.2.2.1
theorem MSt.a1236 {m : Nat} {t : TT} {R : MR} (h : MSt m t R) : R 1236 m = some (m + 30) ∧ t (m + 30) = (20, 440) := h.2.2.2.2.2.2.2.2.2.2.2.2.2.2.2.2.2.2.2.2.2.2.2.2.2.2.2.2.2.2.1
theorem MSt.a1237 {m : Nat} {t : TT} {R : MR} (h : MSt m t R) : R 1237 m = some (m + 31) ∧ t (m + 31) = (20, 440) := h.2.2.2.2.2.2.2.2.2.2.2.2.2.2.2.2.2.2.2.2.2.2.2.2.2.2.2.2.2.2.2.1
theorem MSt.a1239 {m : Nat} {t : TT} {R : MR} (h : MSt m t R) : R 1239 m = some (m + 32) ∧ t (m + 32) = (20, 5000) := h.2.2.2.2.2.2.2.2.2.2.2.2.2.2.2.2.2.2.2.2.2.2.2.2.2.2.2.2.2.2.2.2.1
theorem MSt.a1240 {m : Nat} {t : TT} {R : MR} (h : MSt m t R) : R 1240 m = some (m + 33) ∧ t (m + 33) = (20, 200) := h.2.2.2.2.2.2.2.2.2.2.2.2.2.2.2.2.2.2.2.2.2.2.2.2.2.2.2.2.2.2.2.2.2.1
theorem MSt.a1241 {m : Nat} {t : TT} {R : MR} (h : MSt m t R) : R 1241 m = some (m + 34) ∧ t (m + 34) = (20, 200) := h.2.2.2.2.2.2.2.2.2.2.2.2.2.2.2.2.2.2.2.2.2.2.2.2.2.2.2.2.2.2.2.2.2.2.1
theorem MSt.a1242 {m : Nat} {t : TT} {R : MR} (h : MSt m t R) : R 1242 m = some (m + 35) ∧ t (m + 35) = (20, 200) := h.2.2.2.2.2.2.2.2.2.2.2.2.2.2.2.2.2.2.2.2.2.2.2.2.2.2.2.2.2.2.2.2.2.2.2
theorem sem_X12_in {l : Launch} {D : va_G} {A : Nat → Prop} {z : Nat} {t : TT} {I : MI} {R : MR} {J : MI} {B : MR} {x lo hi : Int32} {Φ : PP}  (q : Φ (some (.int (bI (lo ≤ x ∧ x ≤ hi)))) z t I R J B) : Sem l D A 0 0 0 mX12_in [.int x, .int lo, .int hi] z t I R J B Φ := by
  refine Sem.run [some (.int x), some (.int lo), some (.int hi)] (by decide) rfl (ent_i (ent_i (ent_i ent_nil))) ?_
  refine V_iload dX12_in_0 rfl ?_
  refine V_iload dX12_in_1 rfl ?_
  refine V_icmp_lt dX12_in_2 (fun hc2 => ?_) (fun hc2 => ?_)
  · refine V_const dX12_in_14 ?_
    exact V_zret dX12_in_15 rfl (by first | exact Or.inl rfl | exact Or.inr rfl) (by decide) (by decide) (by rw [bI_f (by rw [i_le]; rw [i_lt] at hc2; omega)] at q; exact q)
  · refine V_iload dX12_in_5 rfl ?_
    refine V_iload dX12_in_6 rfl ?_
    refine V_icmp_gt dX12_in_7 (fun hc7 => ?_) (fun hc7 => ?_)
    · refine V_const dX12_in_14 ?_
      exact V_zret dX12_in_15 rfl (by first | exact Or.inl rfl | exact Or.inr rfl) (by decide) (by decide) (by rw [bI_f (by rw [i_le, i_le]; rw [i_lt] at hc7; omega)] at q; exact q)
    · refine V_const dX12_in_10 ?_
      refine V_goto dX12_in_11 ?_
      exact V_zret dX12_in_15 rfl (by first | exact Or.inl rfl | exact Or.inr rfl) (by decide) (by decide) (by rw [bI_t (by rw [i_le, i_le]; rw [i_lt] at hc7 hc2; omega)] at q; exact q)
theorem sem_X12_isPlace {l : Launch} {D : va_G} {A : Nat → Prop} {z : Nat} {t : TT} {I : MI} {R : MR} {J : MI} {B : MR} {x : Int32} {Φ : PP}  (q : Φ (some (.int (bI (0 ≤ x ∧ x ≤ 7)))) z t I R J B) : Sem l D A 1 0 0 mX12_isPlace [.int x] z t I R J B Φ := by
  refine Sem.run [some (.int x)] (by decide) rfl (ent_i ent_nil) ?_
  refine V_iload dX12_isPlace_0 rfl ?_
  refine V_const dX12_isPlace_1 ?_
  refine V_const dX12_isPlace_2 ?_
  refine V_invS (As := [_, _, _]) ms_X12_in lk_X12_115 dX12_isPlace_4 rfl rfl rfl (Nat.le_of_ble_eq_true rfl) ⟨⟨by decide, by decide⟩, by decide, by decide⟩ (sem_X12_in ?_)
  exact V_zret dX12_isPlace_7 rfl (bI_01 _) (by decide) (by decide) q
theorem sem_X12_isKind {l : Launch} {D : va_G} {A : Nat → Prop} {z : Nat} {t : TT} {I : MI} {R : MR} {J : MI} {B : MR} {x : Int32} {Φ : PP}  (q : Φ (some (.int (bI (0 ≤ x ∧ x ≤ 3)))) z t I R J B) : Sem l D A 1 0 0 mX12_isKind [.int x] z t I R J B Φ := by
  refine Sem.run [some (.int x)] (by decide) rfl (ent_i ent_nil) ?_
  refine V_iload dX12_isKind_0 rfl ?_
  refine V_const dX12_isKind_1 ?_
  refine V_const dX12_isKind_2 ?_
  refine V_invS (As := [_, _, _]) ms_X12_in lk_X12_115 dX12_isKind_3 rfl rfl rfl (Nat.le_of_ble_eq_true rfl) ⟨⟨by decide, by decide⟩, by decide, by decide⟩ (sem_X12_in ?_)
  exact V_zret dX12_isKind_6 rfl (bI_01 _) (by decide) (by decide) q
theorem sem_X12_isLot {l : Launch} {D : va_G} {A : Nat → Prop} {z : Nat} {t : TT} {I : MI} {R : MR} {J : MI} {B : MR} {m : Nat} {x : Int32} {Φ : PP} (hM : MSt m t R) (q : Φ (some (.int (bI (0 ≤ x ∧ x ≤ I 1201 m - 1)))) z t I R J B) : Sem l D A 1 0 0 mX12_isLot [va_rf (some m), .int x] z t I R J B Φ := by
  refine Sem.run [some (va_rf (some m)), some (.int x)] (by decide) rfl (ent_r (ent_i ent_nil)) ?_
  refine V_iload dX12_isLot_0 rfl ?_
  refine V_const dX12_isLot_1 ?_
  refine V_aload dX12_isLot_2 rfl ?_
  refine V_getI fk_X12_126 dX12_isLot_3 hM.1 ?_
  refine V_const dX12_isLot_6 ?_
  refine V_isub dX12_isLot_7 ?_
  refine V_invS (As := [_, _, _]) ms_X12_in lk_X12_115 dX12_isLot_8 rfl rfl rfl (Nat.le_of_ble_eq_true rfl) ⟨⟨by decide, by decide⟩, by decide, by decide⟩ (sem_X12_in ?_)
  exact V_zret dX12_isLot_11 rfl (bI_01 _) (by decide) (by decide) q
theorem sem_X12_men {l : Launch} {D : va_G} {A : Nat → Prop} {z : Nat} {t : TT} {I : MI} {R : MR} {J : MI} {B : MR} {m : Nat} {p n : Int32} {Φ : PP} (hM : MSt m t R) (q0 : ¬ ((0 ≤ p ∧ p ≤ 7) ∧ 0 ≤ n ∧ n ≤ 1000) → Φ (some (.int 0)) z t I R J B) (q : ∀ j, j < 8 → p = nI j → 0 ≤ n ∧ n ≤ 1000 → Φ (some (.int 1)) z t I R (up2 J (m + 1) j n) B) : Sem l D A 2 0 0 mX12_men [va_rf (some m), .int p, .int n] z t I R J B Φ := by
  refine Sem.run [some (va_rf (some m)), some (.int p), some (.int n)] (by decide) rfl (ent_r (ent_i (ent_i ent_nil))) ?_
  refine V_iload dX12_men_0 rfl ?_
  refine V_invS (As := [_]) ms_X12_isPlace lk_X12_119 dX12_men_1 rfl rfl rfl (Nat.le_of_ble_eq_true rfl) ⟨⟨by decide, by decide⟩, by decide, by decide⟩ (sem_X12_isPlace ?_)
  refine V_if_eq dX12_men_4 (fun hc4 => ?_) (fun hc4 => ?_)
  · rw [bI_0] at hc4
    refine V_const dX12_men_18 ?_
    exact V_zret dX12_men_19 rfl (by first | exact Or.inl rfl | exact Or.inr rfl) (by decide) (by decide) (q0 (fun h => hc4 h.1))
  · rw [bI_n0] at hc4
    obtain ⟨j, hj, hp⟩ := i_rng (N := 8) rfl hc4
    refine V_iload dX12_men_7 rfl ?_
    refine V_const dX12_men_8 ?_
    refine V_const dX12_men_9 ?_
    refine V_invS (As := [_, _, _]) ms_X12_in lk_X12_115 dX12_men_12 rfl rfl rfl (Nat.le_of_ble_eq_true rfl) ⟨⟨by decide, by decide⟩, by decide, by decide⟩ (sem_X12_in ?_)
    refine V_if_ne dX12_men_15 (fun hc15 => ?_) (fun hc15 => ?_)
    · rw [bI_n0] at hc15
      refine V_aload dX12_men_20 rfl ?_
      refine V_getRs fk_X12_9 dX12_men_21 hM.1 hM.a1205.1 ?_
      refine V_iload dX12_men_24 rfl ?_
      refine V_iload dX12_men_25 rfl ?_
      refine V_iast dX12_men_26 hM.a1205.2 hp hj (by decide) ?_
      refine V_const dX12_men_27 ?_
      exact V_zret dX12_men_28 rfl (by first | exact Or.inl rfl | exact Or.inr rfl) (by decide) (by decide) (q j hj hp hc15)
    · rw [bI_0] at hc15
      refine V_const dX12_men_18 ?_
      exact V_zret dX12_men_19 rfl (by first | exact Or.inl rfl | exact Or.inr rfl) (by decide) (by decide) (q0 (fun h => hc15 h.2))
theorem sem_X12_rations {l : Launch} {D : va_G} {A : Nat → Prop} {z : Nat} {t : TT} {I : MI} {R : MR} {J : MI} {B : MR} {m : Nat} {p n : Int32} {Φ : PP} (hM : MSt m t R) (q0 : ¬ ((0 ≤ p ∧ p ≤ 3) ∧ 1 ≤ n ∧ n ≤ 500) → Φ (some (.int 0)) z t I R J B) (q : ∀ j, j < 4 → p = nI j → 1 ≤ n ∧ n ≤ 500 → Φ (some (.int 1)) z t I R (up2 J (m + 2) j n) B) : Sem l D A 2 0 0 mX12_rations [va_rf (some m), .int p, .int n] z t I R J B Φ := by
  refine Sem.run [some (va_rf (some m)), some (.int p), some (.int n)] (by decide) rfl (ent_r (ent_i (ent_i ent_nil))) ?_
  refine V_iload dX12_rations_0 rfl ?_
  refine V_invS (As := [_]) ms_X12_isKind lk_X12_123 dX12_rations_1 rfl rfl rfl (Nat.le_of_ble_eq_true rfl) ⟨⟨by decide, by decide⟩, by decide, by decide⟩ (sem_X12_isKind ?_)
  refine V_if_eq dX12_rations_4 (fun hc4 => ?_) (fun hc4 => ?_)
  · rw [bI_0] at hc4
    refine V_const dX12_rations_18 ?_
    exact V_zret dX12_rations_19 rfl (by first | exact Or.inl rfl | exact Or.inr rfl) (by decide) (by decide) (q0 (fun h => hc4 h.1))
  · rw [bI_n0] at hc4
    obtain ⟨j, hj, hp⟩ := i_rng (N := 4) rfl hc4
    refine V_iload dX12_rations_7 rfl ?_
    refine V_const dX12_rations_8 ?_
    refine V_const dX12_rations_9 ?_
    refine V_invS (As := [_, _, _]) ms_X12_in lk_X12_115 dX12_rations_12 rfl rfl rfl (Nat.le_of_ble_eq_true rfl) ⟨⟨by decide, by decide⟩, by decide, by decide⟩ (sem_X12_in ?_)
    refine V_if_ne dX12_rations_15 (fun hc15 => ?_) (fun hc15 => ?_)
    · rw [bI_n0] at hc15
      refine V_aload dX12_rations_20 rfl ?_
      refine V_getRs fk_X12_13 dX12_rations_21 hM.1 hM.a1206.1 ?_
      refine V_iload dX12_rations_24 rfl ?_
      refine V_iload dX12_rations_25 rfl ?_
      refine V_iast dX12_rations_26 hM.a1206.2 hp hj (by decide) ?_
      refine V_const dX12_rations_27 ?_
      exact V_zret dX12_rations_28 rfl (by first | exact Or.inl rfl | exact Or.inr rfl) (by decide) (by decide) (q j hj hp hc15)
    · rw [bI_0] at hc15
      refine V_const dX12_rations_18 ?_
      exact V_zret dX12_rations_19 rfl (by first | exact Or.inl rfl | exact Or.inr rfl) (by decide) (by decide) (q0 (fun h => hc15 h.2))
theorem sem_X12_lag {l : Launch} {D : va_G} {A : Nat → Prop} {z : Nat} {t : TT} {I : MI} {R : MR} {J : MI} {B : MR} {m : Nat} {p n : Int32} {Φ : PP} (hM : MSt m t R) (q0 : ¬ ((0 ≤ p ∧ p ≤ 7) ∧ 0 ≤ n ∧ n ≤ 30) → Φ (some (.int 0)) z t I R J B) (q : ∀ j, j < 8 → p = nI j → 0 ≤ n ∧ n ≤ 30 → Φ (some (.int 1)) z t I R (up2 J (m + 5) j n) B) : Sem l D A 2 0 0 mX12_lag [va_rf (some m), .int p, .int n] z t I R J B Φ := by
  refine Sem.run [some (va_rf (some m)), some (.int p), some (.int n)] (by decide) rfl (ent_r (ent_i (ent_i ent_nil))) ?_
  refine V_iload dX12_lag_0 rfl ?_
  refine V_invS (As := [_]) ms_X12_isPlace lk_X12_119 dX12_lag_1 rfl rfl rfl (Nat.le_of_ble_eq_true rfl) ⟨⟨by decide, by decide⟩, by decide, by decide⟩ (sem_X12_isPlace ?_)
  refine V_if_eq dX12_lag_4 (fun hc4 => ?_) (fun hc4 => ?_)
  · rw [bI_0] at hc4
    refine V_const dX12_lag_17 ?_
    exact V_zret dX12_lag_18 rfl (by first | exact Or.inl rfl | exact Or.inr rfl) (by decide) (by decide) (q0 (fun h => hc4 h.1))
  · rw [bI_n0] at hc4
    obtain ⟨j, hj, hp⟩ := i_rng (N := 8) rfl hc4
    refine V_iload dX12_lag_7 rfl ?_
    refine V_const dX12_lag_8 ?_
    refine V_const dX12_lag_9 ?_
    refine V_invS (As := [_, _, _]) ms_X12_in lk_X12_115 dX12_lag_11 rfl rfl rfl (Nat.le_of_ble_eq_true rfl) ⟨⟨by decide, by decide⟩, by decide, by decide⟩ (sem_X12_in ?_)
    refine V_if_ne dX12_lag_14 (fun hc14 => ?_) (fun hc14 => ?_)
    · rw [bI_n0] at hc14
      refine V_aload dX12_lag_19 rfl ?_
      refine V_getRs fk_X12_22 dX12_lag_20 hM.1 hM.a1209.1 ?_
      refine V_iload dX12_lag_23 rfl ?_
      refine V_iload dX12_lag_24 rfl ?_
      refine V_iast dX12_lag_25 hM.a1209.2 hp hj (by decide) ?_
      refine V_const dX12_lag_26 ?_
      exact V_zret dX12_lag_27 rfl (by first | exact Or.inl rfl | exact Or.inr rfl) (by decide) (by decide) (q j hj hp hc14)
    · rw [bI_0] at hc14
      refine V_const dX12_lag_17 ?_
      exact V_zret dX12_lag_18 rfl (by first | exact Or.inl rfl | exact Or.inr rfl) (by decide) (by decide) (q0 (fun h => hc14 h.2))
theorem sem_X12_spoils {l : Launch} {D : va_G} {A : Nat → Prop} {z : Nat} {t : TT} {I : MI} {R : MR} {J : MI} {B : MR} {m : Nat} {p a n : Int32} {Φ : PP} (hM : MSt m t R) (q0 : ¬ ((0 ≤ p ∧ p ≤ 3) ∧ (0 ≤ a ∧ a ≤ 9) ∧ 0 ≤ n ∧ n ≤ 1000) → Φ (some (.int 0)) z t I R J B) (q : ∀ j i, j < 4 → i < 10 → p = nI j → a = nI i → 0 ≤ n ∧ n ≤ 1000 → Φ (some (.int 1)) z t I R (up2 J (m + 3) (10 * j + i) n) B) : Sem l D A 2 0 0 mX12_spoils [va_rf (some m), .int p, .int a, .int n] z t I R J B Φ := by
  refine Sem.run [some (va_rf (some m)), some (.int p), some (.int a), some (.int n)] (by decide) rfl (ent_r (ent_i (ent_i (ent_i ent_nil)))) ?_
  refine V_iload dX12_spoils_0 rfl ?_
  refine V_invS (As := [_]) ms_X12_isKind lk_X12_123 dX12_spoils_1 rfl rfl rfl (Nat.le_of_ble_eq_true rfl) ⟨⟨by decide, by decide⟩, by decide, by decide⟩ (sem_X12_isKind ?_)
  refine V_if_eq dX12_spoils_4 (fun hc4 => ?_) (fun hc4 => ?_)
  · rw [bI_0] at hc4
    refine V_const dX12_spoils_28 ?_
    exact V_zret dX12_spoils_29 rfl (by first | exact Or.inl rfl | exact Or.inr rfl) (by decide) (by decide) (q0 (fun h => hc4 h.1))
  · rw [bI_n0] at hc4
    obtain ⟨j, hj, hp⟩ := i_rng (N := 4) rfl hc4
    refine V_iload dX12_spoils_7 rfl ?_
    refine V_const dX12_spoils_8 ?_
    refine V_const dX12_spoils_9 ?_
    refine V_invS (As := [_, _, _]) ms_X12_in lk_X12_115 dX12_spoils_11 rfl rfl rfl (Nat.le_of_ble_eq_true rfl) ⟨⟨by decide, by decide⟩, by decide, by decide⟩ (sem_X12_in ?_)
    refine V_if_eq dX12_spoils_14 (fun hc14 => ?_) (fun hc14 => ?_)
    · rw [bI_0] at hc14
      refine V_const dX12_spoils_28 ?_
      exact V_zret dX12_spoils_29 rfl (by first | exact Or.inl rfl | exact Or.inr rfl) (by decide) (by decide) (q0 (fun h => hc14 h.2.1))
    · rw [bI_n0] at hc14
      obtain ⟨i, hi, ha⟩ := i_rng (N := 10) rfl hc14
      refine V_iload dX12_spoils_17 rfl ?_
      refine V_const dX12_spoils_18 ?_
      refine V_const dX12_spoils_19 ?_
      refine V_invS (As := [_, _, _]) ms_X12_in lk_X12_115 dX12_spoils_22 rfl rfl rfl (Nat.le_of_ble_eq_true rfl) ⟨⟨by decide, by decide⟩, by decide, by decide⟩ (sem_X12_in ?_)
      refine V_if_ne dX12_spoils_25 (fun hc25 => ?_) (fun hc25 => ?_)
      · rw [bI_n0] at hc25
        refine V_aload dX12_spoils_30 rfl ?_
        refine V_getRs fk_X12_16 dX12_spoils_31 hM.1 hM.a1207.1 ?_
        refine V_const dX12_spoils_34 ?_
        refine V_iload dX12_spoils_36 rfl ?_
        refine V_imul dX12_spoils_37 ?_
        refine V_iload dX12_spoils_38 rfl ?_
        refine V_iadd dX12_spoils_39 ?_
        refine V_iload dX12_spoils_40 rfl ?_
        refine V_iast dX12_spoils_41 hM.a1207.2 (i := 10 * j + i) (by rw [hp, ha, show (10 : Int32) = nI 10 from rfl, pk_mul, nI_add]) (by omega) (by decide) ?_
        refine V_const dX12_spoils_42 ?_
        exact V_zret dX12_spoils_43 rfl (by first | exact Or.inl rfl | exact Or.inr rfl) (by decide) (by decide) (q j i hj hi hp ha hc25)
      · rw [bI_0] at hc25
        refine V_const dX12_spoils_28 ?_
        exact V_zret dX12_spoils_29 rfl (by first | exact Or.inl rfl | exact Or.inr rfl) (by decide) (by decide) (q0 (fun h => hc25 h.2.2))
theorem sem_X12_way {l : Launch} {D : va_G} {A : Nat → Prop} {z : Nat} {t : TT} {I : MI} {R : MR} {J : MI} {B : MR} {m : Nat} {a b w : Int32} {Φ : PP} (hM : MSt m t R) (q0 : ¬ ((0 ≤ a ∧ a ≤ 7) ∧ (0 ≤ b ∧ b ≤ 7) ∧ a ≠ b ∧ 0 ≤ w ∧ w ≤ 30) → Φ (some (.int 0)) z t I R J B) (q : ∀ i j, i < 8 → j < 8 → i ≠ j → a = nI i → b = nI j → 0 ≤ w ∧ w ≤ 30 → Φ (some (.int 1)) z t I R (up2 (up2 J (m + 4) (8 * i + j) w) (m + 4) (8 * j + i) w) B) : Sem l D A 2 0 0 mX12_way [va_rf (some m), .int a, .int b, .int w] z t I R J B Φ := by
  refine Sem.run [some (va_rf (some m)), some (.int a), some (.int b), some (.int w)] (by decide) rfl (ent_r (ent_i (ent_i (ent_i ent_nil)))) ?_
  refine V_iload dX12_way_0 rfl ?_
  refine V_invS (As := [_]) ms_X12_isPlace lk_X12_119 dX12_way_1 rfl rfl rfl (Nat.le_of_ble_eq_true rfl) ⟨⟨by decide, by decide⟩, by decide, by decide⟩ (sem_X12_isPlace ?_)
  refine V_if_eq dX12_way_4 (fun hc4 => ?_) (fun hc4 => ?_)
  · rw [bI_0] at hc4
    refine V_const dX12_way_29 ?_
    exact V_zret dX12_way_30 rfl (by first | exact Or.inl rfl | exact Or.inr rfl) (by decide) (by decide) (q0 (fun h => hc4 h.1))
  · rw [bI_n0] at hc4
    obtain ⟨i, hi, ha⟩ := i_rng (N := 8) rfl hc4
    refine V_iload dX12_way_7 rfl ?_
    refine V_invS (As := [_]) ms_X12_isPlace lk_X12_119 dX12_way_8 rfl rfl rfl (Nat.le_of_ble_eq_true rfl) ⟨⟨by decide, by decide⟩, by decide, by decide⟩ (sem_X12_isPlace ?_)
    refine V_if_eq dX12_way_11 (fun hc11 => ?_) (fun hc11 => ?_)
    · rw [bI_0] at hc11
      refine V_const dX12_way_29 ?_
      exact V_zret dX12_way_30 rfl (by first | exact Or.inl rfl | exact Or.inr rfl) (by decide) (by decide) (q0 (fun h => hc11 h.2.1))
    · rw [bI_n0] at hc11
      obtain ⟨j, hj, hb⟩ := i_rng (N := 8) rfl hc11
      refine V_iload dX12_way_14 rfl ?_
      refine V_iload dX12_way_15 rfl ?_
      refine V_icmp_eq dX12_way_16 (fun hc16 => ?_) (fun hc16 => ?_)
      · refine V_const dX12_way_29 ?_
        exact V_zret dX12_way_30 rfl (by first | exact Or.inl rfl | exact Or.inr rfl) (by decide) (by decide) (q0 (fun h => h.2.2.1 hc16))
      · refine V_iload dX12_way_19 rfl ?_
        refine V_const dX12_way_20 ?_
        refine V_const dX12_way_21 ?_
        refine V_invS (As := [_, _, _]) ms_X12_in lk_X12_115 dX12_way_23 rfl rfl rfl (Nat.le_of_ble_eq_true rfl) ⟨⟨by decide, by decide⟩, by decide, by decide⟩ (sem_X12_in ?_)
        refine V_if_ne dX12_way_26 (fun hc26 => ?_) (fun hc26 => ?_)
        · rw [bI_n0] at hc26
          refine V_aload dX12_way_31 rfl ?_
          refine V_getRs fk_X12_19 dX12_way_32 hM.1 hM.a1208.1 ?_
          refine V_const dX12_way_35 ?_
          refine V_iload dX12_way_37 rfl ?_
          refine V_imul dX12_way_38 ?_
          refine V_iload dX12_way_39 rfl ?_
          refine V_iadd dX12_way_40 ?_
          refine V_iload dX12_way_41 rfl ?_
          refine V_iast dX12_way_42 hM.a1208.2 (i := 8 * i + j) (by rw [ha, hb, show (8 : Int32) = nI 8 from rfl, pk_mul, nI_add]) (by omega) (by decide) ?_
          refine V_aload dX12_way_43 rfl ?_
          refine V_getRs fk_X12_19 dX12_way_44 hM.1 hM.a1208.1 ?_
          refine V_const dX12_way_47 ?_
          refine V_iload dX12_way_49 rfl ?_
          refine V_imul dX12_way_50 ?_
          refine V_iload dX12_way_51 rfl ?_
          refine V_iadd dX12_way_52 ?_
          refine V_iload dX12_way_53 rfl ?_
          refine V_iast dX12_way_54 hM.a1208.2 (i := 8 * j + i) (by rw [ha, hb, show (8 : Int32) = nI 8 from rfl, pk_mul, nI_add]) (by omega) (by decide) ?_
          refine V_const dX12_way_55 ?_
          exact V_zret dX12_way_56 rfl (by first | exact Or.inl rfl | exact Or.inr rfl) (by decide) (by decide) (q i j hi hj (fun e => hc16 (by rw [ha, hb, e])) ha hb hc26)
        · rw [bI_0] at hc26
          refine V_const dX12_way_29 ?_
          exact V_zret dX12_way_30 rfl (by first | exact Or.inl rfl | exact Or.inr rfl) (by decide) (by decide) (q0 (fun h => hc26 h.2.2.2))
