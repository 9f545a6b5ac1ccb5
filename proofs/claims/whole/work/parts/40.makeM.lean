-- MAKING THE REFERENCE
def mfl (j : Nat) : Nat × Nat := match j with
  | 0 => (1205, 8)
  | 1 => (1206, 4)
  | 2 => (1207, 40)
  | 3 => (1208, 64)
  | 4 => (1209, 8)
  | 5 => (1210, 300)
  | 6 => (1211, 300)
  | 7 => (1212, 300)
  | 8 => (1213, 300)
  | 9 => (1214, 300)
  | 10 => (1215, 300)
  | 11 => (1216, 300)
  | 12 => (1217, 300)
  | 13 => (1218, 300)
  | 14 => (1219, 300)
  | 15 => (1220, 300)
  | 16 => (1221, 300)
  | 17 => (1222, 300)
  | 18 => (1223, 32)
  | 19 => (1224, 32)
  | 20 => (1225, 32)
  | 21 => (1226, 6432)
  | 22 => (1227, 300)
  | 23 => (1228, 300)
  | 24 => (1229, 4)
  | 25 => (1230, 220)
  | 26 => (1233, 10)
  | 27 => (1234, 440)
  | 28 => (1235, 440)
  | 29 => (1236, 440)
  | 30 => (1237, 440)
  | 31 => (1239, 5000)
  | 32 => (1240, 200)
  | 33 => (1241, 200)
  | _ => (1242, 200)
def MPre (m k z : Nat) (t t0 : TT) (R R0 : MR) (J J0 : MI) : Prop := z = m + 1 + k ∧ (∀ j, j < k → R (mfl j).1 m = some (m + 1 + j) ∧ t (m + 1 + j) = (20, (mfl j).2) ∧ J (m + 1 + j) = fun _ => 0) ∧ (∀ a, a ≤ m → t a = t0 a ∧ J a = J0 a) ∧ ∀ f b, b ≠ m → R f b = R0 f b
theorem mfl_inj : ∀ i, i < 35 → ∀ j, j < 35 → (mfl i).1 = (mfl j).1 → i = j := by decide +kernel
theorem MPre.step {m k z : Nat} {t t0 : TT} {R R0 : MR} {J J0 : MI} (h : MPre m k z t t0 R R0 J J0) (hk : k < 35) : MPre m (k + 1) (z + 1) (va_up t z (20, (mfl k).2)) t0 (up2 R (mfl k).1 m (some z)) R0 (va_up J z (fun _ => 0)) J0 := by
  obtain ⟨hz, h1, h2, h3⟩ := h
  refine ⟨by omega, fun j hj => ?_, fun a ha => ?_, fun f b hb => by rw [up2o hb]; exact h3 f b hb⟩
  · by_cases e : j = k
    · subst e
      rw [hz, up2s, va_up_self, va_up_self]
      exact ⟨rfl, rfl, rfl⟩
    · obtain ⟨a1, a2, a3⟩ := h1 j (by omega)
      rw [up2n (fun q => e (mfl_inj j (by omega) k hk q)), va_up_ne _ _ (by omega), va_up_ne _ _ (by omega)]
      exact ⟨a1, a2, a3⟩
  · rw [va_up_ne _ _ (by omega), va_up_ne _ _ (by omega)]
    exact h2 a ha
theorem MPre.st {m z : Nat} {t t0 : TT} {R R0 : MR} {J J0 : MI} (h : MPre m 35 z t t0 R R0 J J0) (h13 : (t0 m).1 = 13) : MSt m t R := by
  have a := fun j hj => h.2.1 j hj
  refine ⟨by rw [(h.2.2.1 m (Nat.le_refl _)).1]; exact h13, ⟨(a 0 (by decide)).1, (a 0 (by decide)).2.1⟩, ⟨(a 1 (by decide)).1, (a 1 (by decide)).2.1⟩, ⟨(a 2 (by decide)).1, (a 2 (by decide)).2.1⟩, ⟨(a 3 (by decide)).1, (a 3 (by decide)).2.1⟩, ⟨(a 4 (by decide)).1, (a 4 (by decide)).2.1⟩, ⟨(a 5 (by decide)).1, (a 5 (by decide)).2.1⟩, ⟨(a 6 (by decide)).1, (a 6 (by decide)).2.1⟩, ⟨(a 7 (by decide)).1, (a 7 (by decide)).2.1⟩, ⟨(a 8 (by decide)).1, (a 8 (by decide)).2.1⟩, ⟨(a 9 (by decide)).1, (a 9 (by decide)).2.1⟩, ⟨(a 10 (by decide)).1, (a 10 (by decide)).2.1⟩, ⟨(a 11 (by decide)).1, (a 11 (by decide)).2.1⟩, ⟨(a 12 (by decide)).1, (a 12 (by decide)).2.1⟩, ⟨(a 13 (by decide)).1, (a 13 (by decide)).2.1⟩, ⟨(a 14 (by decide)).1, (a 14 (by decide)).2.1⟩, ⟨(a 15 (by decide)).1, (a 15 (by decide)).2.1⟩, ⟨(a 16 (by decide)).1, (a 16 (by decide)).2.1⟩, ⟨(a 17 (by decide)).1, (a 17 (by decide)).2.1⟩, ⟨(a 18 (by decide)).1, (a 18 (by decide)).2.1⟩, ⟨(a 19 (by decide)).1, (a 19 (by decide)).2.1⟩, ⟨(a 20 (by decide)).1, (a 20 (by decide)).2.1⟩, ⟨(a 21 (by decide)).1, (a 21 (by decide)).2.1⟩, ⟨(a 22 (by decide)).1, (a 22 (by decide)).2.1⟩, ⟨(a 23 (by decide)).1, (a 23 (by decide)).2.1⟩, ⟨(a 24 (by decide)).1, (a 24 (by decide)).2.1⟩, ⟨(a 25 (by decide)).1, (a 25 (by decide)).2.1⟩, ⟨(a 26 (by decide)).1, (a 26 (by decide)).2.1⟩, ⟨(a 27 (by decide)).1, (a 27 (by decide)).2.1⟩, ⟨(a 28 (by decide)).1, (a 28 (by decide)).2.1⟩, ⟨(a 29 (by decide)).1, (a 29 (by decide)).2.1⟩, ⟨(a 30 (by decide)).1, (a 30 (by decide)).2.1⟩, ⟨(a 31 (by decide)).1, (a 31 (by decide)).2.1⟩, ⟨(a 32 (by decide)).1, (a 32 (by decide)).2.1⟩, ⟨(a 33 (by decide)).1, (a 33 (by decide)).2.1⟩, (a 34 (by decide)).1, (a 34 (by decide)).2.1⟩
section GEN
variable {l : Launch} {D : va_G} {A : Nat → Prop} {Rm : Room} {μ : Meth} {K : Kx} {k n z : Nat} {t t0 : TT} {I : MI} {R R0 : MR} {J J0 : MI} {B : MR} {pc : Nat} {lv : List (Option Value)} {st : List Value}
theorem V.mpre {m j : Nat} (h : MPre m j z t t0 R R0 J J0) (kk : ∀ (z : Nat) (t : TT) (R : MR) (J : MI), MPre m j z t t0 R R0 J J0 → V l D A Rm μ K k n z t I R J B pc lv st) : V l D A Rm μ K k n z t I R J B pc lv st := kk z t R J h
end GEN
/-- what the reference's constructor leaves -/
def MIn (m : Nat) (J : MI) : Prop := (∀ a i, m < a → a < m + 36 → a ≠ m + 2 → a ≠ m + 4 → J a i = 0) ∧ (∀ k, k < 4 → J (m + 2) k = 50) ∧ ∀ i, i < 64 → J (m + 4) i = 2
theorem lp_X12_i1 {l : Launch} {D : va_G} {A : Nat → Prop} {z : Nat} {t : TT} {I : MI} {R : MR} {B : MR} {m : Nat} {J0 : MI} {Φ : PP} (hM : MSt m t R) (kk : ∀ J2 : MI, (∀ b, b ≠ m + 2 → J2 b = J0 b) → (∀ i, i < 4 → J2 (m + 2) i = 50) → V l D A (rmm 1 35 18746) mX12_init (KS D A 35 18746 Φ) 35 18746 z t I R J2 B 328 [some (va_rf (some m)), none] []) : ∀ (k i : Nat) (J : MI), i + k = 4 → (∀ b, b ≠ m + 2 → J b = J0 b) → (∀ j, j < i → J (m + 2) j = 50) → V l D A (rmm 1 35 18746) mX12_init (KS D A 35 18746 Φ) 35 18746 z t I R J B 309 [some (va_rf (some m)), some (.int (nI i))] [] := by
  intro k
  induction k with
  | zero =>
    intro i J hin hf hl
    have hi : i = 4 := by omega
    subst hi
    refine V_iload dX12_init_309 rfl ?_
    refine V_const dX12_init_310 ?_
    refine V_icmp_ge dX12_init_311 (fun hc311 => ?_) (fun hc311 => ?_)
    · exact V.sub (lsS (lsN ls0)) (kk J hf hl)
    · exact absurd (show (4 : Int32) ≤ nI 4 from Int32.le_refl _) hc311
  | succ k ih =>
    intro i J hin hf hl
    refine V_iload dX12_init_309 rfl ?_
    refine V_const dX12_init_310 ?_
    refine V_icmp_ge dX12_init_311 (fun hc311 => ?_) (fun hc311 => ?_)
    · exact absurd hc311 (show ¬ nI 4 ≤ nI i from nI_ge (by omega) (by decide))
    · refine V_aload dX12_init_314 rfl ?_
      refine V_getRs fk_X12_13 dX12_init_315 hM.1 hM.a1206.1 ?_
      refine V_iload dX12_init_318 rfl ?_
      refine V_const dX12_init_319 ?_
      refine V_iast dX12_init_321 hM.a1206.2 rfl (by omega) (by decide) ?_
      refine V_ii1 dX12_init_322 (by decide) (noL_r _) ?_
      refine V_goto dX12_init_325 ?_
      exact V.sub (lsS (lsE (by rw [nI_1]) ls0)) (ih (i + 1) _ (by omega) (fun b hb => (up2_ne _ _ _ hb).trans (hf b hb)) (fun j hj => by by_cases e : j = i <;> first | (subst e; exact up2s) | (rw [up2o e]; exact hl j (by omega))))
theorem lp_X12_i2 {l : Launch} {D : va_G} {A : Nat → Prop} {z : Nat} {t : TT} {I : MI} {R : MR} {B : MR} {m : Nat} {J0 : MI} {Φ : PP} (hM : MSt m t R) (kk : ∀ J2 : MI, (∀ b, b ≠ m + 4 → J2 b = J0 b) → (∀ i, i < 64 → J2 (m + 4) i = 2) → V l D A (rmm 1 35 18746) mX12_init (KS D A 35 18746 Φ) 35 18746 z t I R J2 B 349 [some (va_rf (some m)), none] []) : ∀ (k i : Nat) (J : MI), i + k = 64 → (∀ b, b ≠ m + 4 → J b = J0 b) → (∀ j, j < i → J (m + 4) j = 2) → V l D A (rmm 1 35 18746) mX12_init (KS D A 35 18746 Φ) 35 18746 z t I R J B 330 [some (va_rf (some m)), some (.int (nI i))] [] := by
  intro k
  induction k with
  | zero =>
    intro i J hin hf hl
    have hi : i = 64 := by omega
    subst hi
    refine V_iload dX12_init_330 rfl ?_
    refine V_const dX12_init_331 ?_
    refine V_icmp_ge dX12_init_333 (fun hc333 => ?_) (fun hc333 => ?_)
    · exact V.sub (lsS (lsN ls0)) (kk J hf hl)
    · exact absurd (show (64 : Int32) ≤ nI 64 from Int32.le_refl _) hc333
  | succ k ih =>
    intro i J hin hf hl
    refine V_iload dX12_init_330 rfl ?_
    refine V_const dX12_init_331 ?_
    refine V_icmp_ge dX12_init_333 (fun hc333 => ?_) (fun hc333 => ?_)
    · exact absurd hc333 (show ¬ nI 64 ≤ nI i from nI_ge (by omega) (by decide))
    · refine V_aload dX12_init_336 rfl ?_
      refine V_getRs fk_X12_19 dX12_init_337 hM.1 hM.a1208.1 ?_
      refine V_iload dX12_init_340 rfl ?_
      refine V_const dX12_init_341 ?_
      refine V_iast dX12_init_342 hM.a1208.2 rfl (by omega) (by decide) ?_
      refine V_ii1 dX12_init_343 (by decide) (noL_r _) ?_
      refine V_goto dX12_init_346 ?_
      exact V.sub (lsS (lsE (by rw [nI_1]) ls0)) (ih (i + 1) _ (by omega) (fun b hb => (up2_ne _ _ _ hb).trans (hf b hb)) (fun j hj => by by_cases e : j = i <;> first | (subst e; exact up2s) | (rw [up2o e]; exact hl j (by omega))))
theorem sem_X12_init {l : Launch} {D : va_G} {A : Nat → Prop} {t : TT} {I : MI} {R : MR} {J : MI} {B : MR} {m : Nat} {Φ : PP} (ho : (t m).1 = 13) (hA : ∀ q, m + 1 ≤ q → A q) (q : ∀ (t2 : TT) (R2 : MR) (J2 : MI), MSt m t2 R2 → MIn m J2 → (∀ a, a ≤ m → t2 a = t a ∧ J2 a = J a) → (∀ f b, b ≠ m → R2 f b = R f b) → Φ none (m + 36) t2 I R2 J2 B) : Sem l D A 1 35 18746 mX12_init [va_rf (some m)] (m + 1) t I R J B Φ := by
  refine Sem.run [some (va_rf (some m)), none] (by decide) rfl (ent_r (ent_none ent_nil)) ?_
  have h0 : MPre m 0 (m + 1) t t R R J J := ⟨rfl, fun j hj => absurd hj (Nat.not_lt_zero j), fun a _ => ⟨rfl, rfl⟩, fun _ _ _ => rfl⟩
  refine V_aload dX12_init_0 rfl ?_
  refine V_objInit dX12_init_1 lk_X12_3 w_oi1 w_oi2 (by decide) (by decide) (Nat.le_of_ble_eq_true rfl) ?_
  refine V_aload dX12_init_4 rfl ?_
  refine V_const dX12_init_5 ?_
  refine V_newa w_arr rfl (by decide) (hA _ (by rw [h0.1]; omega)) (by decide) (by decide) dX12_init_7 ?_
  refine V_putR fk_X12_9 (Or.inr ⟨rfl, rfl, rfl⟩) (fun v => by cases v <;> rfl) (fun v => by cases v <;> rfl) dX12_init_9 (by rw [va_up_ne _ _ (by rw [h0.1]; omega), (h0.2.2.1 m (Nat.le_refl _)).1]; exact ho) ?_
  refine V.mpre (h0.step (by decide)) (fun z t1 R1 J1 h1 => ?_)
  refine V_aload dX12_init_12 rfl ?_
  refine V_const dX12_init_13 ?_
  refine V_newa w_arr rfl (by decide) (hA _ (by rw [h1.1]; omega)) (by decide) (by decide) dX12_init_14 ?_
  refine V_putR fk_X12_13 (Or.inr ⟨rfl, rfl, rfl⟩) (fun v => by cases v <;> rfl) (fun v => by cases v <;> rfl) dX12_init_16 (by rw [va_up_ne _ _ (by rw [h1.1]; omega), (h1.2.2.1 m (Nat.le_refl _)).1]; exact ho) ?_
  refine V.mpre (h1.step (by decide)) (fun z t1 R1 J1 h2 => ?_)
  refine V_aload dX12_init_19 rfl ?_
  refine V_const dX12_init_20 ?_
  refine V_newa w_arr rfl (by decide) (hA _ (by rw [h2.1]; omega)) (by decide) (by decide) dX12_init_22 ?_
  refine V_putR fk_X12_16 (Or.inr ⟨rfl, rfl, rfl⟩) (fun v => by cases v <;> rfl) (fun v => by cases v <;> rfl) dX12_init_24 (by rw [va_up_ne _ _ (by rw [h2.1]; omega), (h2.2.2.1 m (Nat.le_refl _)).1]; exact ho) ?_
  refine V.mpre (h2.step (by decide)) (fun z t1 R1 J1 h3 => ?_)
  refine V_aload dX12_init_27 rfl ?_
  refine V_const dX12_init_28 ?_
  refine V_newa w_arr rfl (by decide) (hA _ (by rw [h3.1]; omega)) (by decide) (by decide) dX12_init_30 ?_
  refine V_putR fk_X12_19 (Or.inr ⟨rfl, rfl, rfl⟩) (fun v => by cases v <;> rfl) (fun v => by cases v <;> rfl) dX12_init_32 (by rw [va_up_ne _ _ (by rw [h3.1]; omega), (h3.2.2.1 m (Nat.le_refl _)).1]; exact ho) ?_
  refine V.mpre (h3.step (by decide)) (fun z t1 R1 J1 h4 => ?_)
  refine V_aload dX12_init_35 rfl ?_
  refine V_const dX12_init_36 ?_
  refine V_newa w_arr rfl (by decide) (hA _ (by rw [h4.1]; omega)) (by decide) (by decide) dX12_init_38 ?_
  refine V_putR fk_X12_22 (Or.inr ⟨rfl, rfl, rfl⟩) (fun v => by cases v <;> rfl) (fun v => by cases v <;> rfl) dX12_init_40 (by rw [va_up_ne _ _ (by rw [h4.1]; omega), (h4.2.2.1 m (Nat.le_refl _)).1]; exact ho) ?_
  refine V.mpre (h4.step (by decide)) (fun z t1 R1 J1 h5 => ?_)
  refine V_aload dX12_init_43 rfl ?_
  refine V_const dX12_init_44 ?_
  refine V_newa w_arr rfl (by decide) (hA _ (by rw [h5.1]; omega)) (by decide) (by decide) dX12_init_47 ?_
  refine V_putR fk_X12_25 (Or.inr ⟨rfl, rfl, rfl⟩) (fun v => by cases v <;> rfl) (fun v => by cases v <;> rfl) dX12_init_49 (by rw [va_up_ne _ _ (by rw [h5.1]; omega), (h5.2.2.1 m (Nat.le_refl _)).1]; exact ho) ?_
  refine V.mpre (h5.step (by decide)) (fun z t1 R1 J1 h6 => ?_)
  refine V_aload dX12_init_52 rfl ?_
  refine V_const dX12_init_53 ?_
  refine V_newa w_arr rfl (by decide) (hA _ (by rw [h6.1]; omega)) (by decide) (by decide) dX12_init_56 ?_
  refine V_putR fk_X12_28 (Or.inr ⟨rfl, rfl, rfl⟩) (fun v => by cases v <;> rfl) (fun v => by cases v <;> rfl) dX12_init_58 (by rw [va_up_ne _ _ (by rw [h6.1]; omega), (h6.2.2.1 m (Nat.le_refl _)).1]; exact ho) ?_
  refine V.mpre (h6.step (by decide)) (fun z t1 R1 J1 h7 => ?_)
  refine V_aload dX12_init_61 rfl ?_
  refine V_const dX12_init_62 ?_
  refine V_newa w_arr rfl (by decide) (hA _ (by rw [h7.1]; omega)) (by decide) (by decide) dX12_init_65 ?_
  refine V_putR fk_X12_31 (Or.inr ⟨rfl, rfl, rfl⟩) (fun v => by cases v <;> rfl) (fun v => by cases v <;> rfl) dX12_init_67 (by rw [va_up_ne _ _ (by rw [h7.1]; omega), (h7.2.2.1 m (Nat.le_refl _)).1]; exact ho) ?_
  refine V.mpre (h7.step (by decide)) (fun z t1 R1 J1 h8 => ?_)
  refine V_aload dX12_init_70 rfl ?_
  refine V_const dX12_init_71 ?_
  refine V_newa w_arr rfl (by decide) (hA _ (by rw [h8.1]; omega)) (by decide) (by decide) dX12_init_74 ?_
  refine V_putR fk_X12_34 (Or.inr ⟨rfl, rfl, rfl⟩) (fun v => by cases v <;> rfl) (fun v => by cases v <;> rfl) dX12_init_76 (by rw [va_up_ne _ _ (by rw [h8.1]; omega), (h8.2.2.1 m (Nat.le_refl _)).1]; exact ho) ?_
  refine V.mpre (h8.step (by decide)) (fun z t1 R1 J1 h9 => ?_)
  refine V_aload dX12_init_79 rfl ?_
  refine V_const dX12_init_80 ?_
  refine V_newa w_arr rfl (by decide) (hA _ (by rw [h9.1]; omega)) (by decide) (by decide) dX12_init_83 ?_
  refine V_putR fk_X12_37 (Or.inr ⟨rfl, rfl, rfl⟩) (fun v => by cases v <;> rfl) (fun v => by cases v <;> rfl) dX12_init_85 (by rw [va_up_ne _ _ (by rw [h9.1]; omega), (h9.2.2.1 m (Nat.le_refl _)).1]; exact ho) ?_
  refine V.mpre (h9.step (by decide)) (fun z t1 R1 J1 h10 => ?_)
  refine V_aload dX12_init_88 rfl ?_
  refine V_const dX12_init_89 ?_
  refine V_newa w_arr rfl (by decide) (hA _ (by rw [h10.1]; omega)) (by decide) (by decide) dX12_init_92 ?_
  refine V_putR fk_X12_40 (Or.inr ⟨rfl, rfl, rfl⟩) (fun v => by cases v <;> rfl) (fun v => by cases v <;> rfl) dX12_init_94 (by rw [va_up_ne _ _ (by rw [h10.1]; omega), (h10.2.2.1 m (Nat.le_refl _)).1]; exact ho) ?_
  refine V.mpre (h10.step (by decide)) (fun z t1 R1 J1 h11 => ?_)
  refine V_aload dX12_init_97 rfl ?_
  refine V_const dX12_init_98 ?_
  refine V_newa w_arr rfl (by decide) (hA _ (by rw [h11.1]; omega)) (by decide) (by decide) dX12_init_101 ?_
  refine V_putR fk_X12_43 (Or.inr ⟨rfl, rfl, rfl⟩) (fun v => by cases v <;> rfl) (fun v => by cases v <;> rfl) dX12_init_103 (by rw [va_up_ne _ _ (by rw [h11.1]; omega), (h11.2.2.1 m (Nat.le_refl _)).1]; exact ho) ?_
  refine V.mpre (h11.step (by decide)) (fun z t1 R1 J1 h12 => ?_)
  refine V_aload dX12_init_106 rfl ?_
  refine V_const dX12_init_107 ?_
  refine V_newa w_arr rfl (by decide) (hA _ (by rw [h12.1]; omega)) (by decide) (by decide) dX12_init_110 ?_
  refine V_putR fk_X12_46 (Or.inr ⟨rfl, rfl, rfl⟩) (fun v => by cases v <;> rfl) (fun v => by cases v <;> rfl) dX12_init_112 (by rw [va_up_ne _ _ (by rw [h12.1]; omega), (h12.2.2.1 m (Nat.le_refl _)).1]; exact ho) ?_
  refine V.mpre (h12.step (by decide)) (fun z t1 R1 J1 h13 => ?_)
  refine V_aload dX12_init_115 rfl ?_
  refine V_const dX12_init_116 ?_
  refine V_newa w_arr rfl (by decide) (hA _ (by rw [h13.1]; omega)) (by decide) (by decide) dX12_init_119 ?_
  refine V_putR fk_X12_49 (Or.inr ⟨rfl, rfl, rfl⟩) (fun v => by cases v <;> rfl) (fun v => by cases v <;> rfl) dX12_init_121 (by rw [va_up_ne _ _ (by rw [h13.1]; omega), (h13.2.2.1 m (Nat.le_refl _)).1]; exact ho) ?_
  refine V.mpre (h13.step (by decide)) (fun z t1 R1 J1 h14 => ?_)
  refine V_aload dX12_init_124 rfl ?_
  refine V_const dX12_init_125 ?_
  refine V_newa w_arr rfl (by decide) (hA _ (by rw [h14.1]; omega)) (by decide) (by decide) dX12_init_128 ?_
  refine V_putR fk_X12_52 (Or.inr ⟨rfl, rfl, rfl⟩) (fun v => by cases v <;> rfl) (fun v => by cases v <;> rfl) dX12_init_130 (by rw [va_up_ne _ _ (by rw [h14.1]; omega), (h14.2.2.1 m (Nat.le_refl _)).1]; exact ho) ?_
  refine V.mpre (h14.step (by decide)) (fun z t1 R1 J1 h15 => ?_)
  refine V_aload dX12_init_133 rfl ?_
  refine V_const dX12_init_134 ?_
  refine V_newa w_arr rfl (by decide) (hA _ (by rw [h15.1]; omega)) (by decide) (by decide) dX12_init_137 ?_
  refine V_putR fk_X12_55 (Or.inr ⟨rfl, rfl, rfl⟩) (fun v => by cases v <;> rfl) (fun v => by cases v <;> rfl) dX12_init_139 (by rw [va_up_ne _ _ (by rw [h15.1]; omega), (h15.2.2.1 m (Nat.le_refl _)).1]; exact ho) ?_
  refine V.mpre (h15.step (by decide)) (fun z t1 R1 J1 h16 => ?_)
  refine V_aload dX12_init_142 rfl ?_
  refine V_const dX12_init_143 ?_
  refine V_newa w_arr rfl (by decide) (hA _ (by rw [h16.1]; omega)) (by decide) (by decide) dX12_init_146 ?_
  refine V_putR fk_X12_58 (Or.inr ⟨rfl, rfl, rfl⟩) (fun v => by cases v <;> rfl) (fun v => by cases v <;> rfl) dX12_init_148 (by rw [va_up_ne _ _ (by rw [h16.1]; omega), (h16.2.2.1 m (Nat.le_refl _)).1]; exact ho) ?_
  refine V.mpre (h16.step (by decide)) (fun z t1 R1 J1 h17 => ?_)
  refine V_aload dX12_init_151 rfl ?_
  refine V_const dX12_init_152 ?_
  refine V_newa w_arr rfl (by decide) (hA _ (by rw [h17.1]; omega)) (by decide) (by decide) dX12_init_155 ?_
  refine V_putR fk_X12_61 (Or.inr ⟨rfl, rfl, rfl⟩) (fun v => by cases v <;> rfl) (fun v => by cases v <;> rfl) dX12_init_157 (by rw [va_up_ne _ _ (by rw [h17.1]; omega), (h17.2.2.1 m (Nat.le_refl _)).1]; exact ho) ?_
  refine V.mpre (h17.step (by decide)) (fun z t1 R1 J1 h18 => ?_)
  refine V_aload dX12_init_160 rfl ?_
  refine V_const dX12_init_161 ?_
  refine V_newa w_arr rfl (by decide) (hA _ (by rw [h18.1]; omega)) (by decide) (by decide) dX12_init_163 ?_
  refine V_putR fk_X12_64 (Or.inr ⟨rfl, rfl, rfl⟩) (fun v => by cases v <;> rfl) (fun v => by cases v <;> rfl) dX12_init_165 (by rw [va_up_ne _ _ (by rw [h18.1]; omega), (h18.2.2.1 m (Nat.le_refl _)).1]; exact ho) ?_
  refine V.mpre (h18.step (by decide)) (fun z t1 R1 J1 h19 => ?_)
  refine V_aload dX12_init_168 rfl ?_
  refine V_const dX12_init_169 ?_
  refine V_newa w_arr rfl (by decide) (hA _ (by rw [h19.1]; omega)) (by decide) (by decide) dX12_init_171 ?_
  refine V_putR fk_X12_67 (Or.inr ⟨rfl, rfl, rfl⟩) (fun v => by cases v <;> rfl) (fun v => by cases v <;> rfl) dX12_init_173 (by rw [va_up_ne _ _ (by rw [h19.1]; omega), (h19.2.2.1 m (Nat.le_refl _)).1]; exact ho) ?_
  refine V.mpre (h19.step (by decide)) (fun z t1 R1 J1 h20 => ?_)
  refine V_aload dX12_init_176 rfl ?_
  refine V_const dX12_init_177 ?_
  refine V_newa w_arr rfl (by decide) (hA _ (by rw [h20.1]; omega)) (by decide) (by decide) dX12_init_179 ?_
  refine V_putR fk_X12_70 (Or.inr ⟨rfl, rfl, rfl⟩) (fun v => by cases v <;> rfl) (fun v => by cases v <;> rfl) dX12_init_181 (by rw [va_up_ne _ _ (by rw [h20.1]; omega), (h20.2.2.1 m (Nat.le_refl _)).1]; exact ho) ?_
  refine V.mpre (h20.step (by decide)) (fun z t1 R1 J1 h21 => ?_)
  refine V_aload dX12_init_184 rfl ?_
  refine V_const dX12_init_185 ?_
  refine V_newa w_arr rfl (by decide) (hA _ (by rw [h21.1]; omega)) (by decide) (by decide) dX12_init_188 ?_
  refine V_putR fk_X12_73 (Or.inr ⟨rfl, rfl, rfl⟩) (fun v => by cases v <;> rfl) (fun v => by cases v <;> rfl) dX12_init_190 (by rw [va_up_ne _ _ (by rw [h21.1]; omega), (h21.2.2.1 m (Nat.le_refl _)).1]; exact ho) ?_
  refine V.mpre (h21.step (by decide)) (fun z t1 R1 J1 h22 => ?_)
  refine V_aload dX12_init_193 rfl ?_
  refine V_const dX12_init_194 ?_
  refine V_newa w_arr rfl (by decide) (hA _ (by rw [h22.1]; omega)) (by decide) (by decide) dX12_init_197 ?_
  refine V_putR fk_X12_76 (Or.inr ⟨rfl, rfl, rfl⟩) (fun v => by cases v <;> rfl) (fun v => by cases v <;> rfl) dX12_init_199 (by rw [va_up_ne _ _ (by rw [h22.1]; omega), (h22.2.2.1 m (Nat.le_refl _)).1]; exact ho) ?_
  refine V.mpre (h22.step (by decide)) (fun z t1 R1 J1 h23 => ?_)
  refine V_aload dX12_init_202 rfl ?_
  refine V_const dX12_init_203 ?_
  refine V_newa w_arr rfl (by decide) (hA _ (by rw [h23.1]; omega)) (by decide) (by decide) dX12_init_206 ?_
  refine V_putR fk_X12_79 (Or.inr ⟨rfl, rfl, rfl⟩) (fun v => by cases v <;> rfl) (fun v => by cases v <;> rfl) dX12_init_208 (by rw [va_up_ne _ _ (by rw [h23.1]; omega), (h23.2.2.1 m (Nat.le_refl _)).1]; exact ho) ?_
  refine V.mpre (h23.step (by decide)) (fun z t1 R1 J1 h24 => ?_)
  refine V_aload dX12_init_211 rfl ?_
  refine V_const dX12_init_212 ?_
  refine V_newa w_arr rfl (by decide) (hA _ (by rw [h24.1]; omega)) (by decide) (by decide) dX12_init_213 ?_
  refine V_putR fk_X12_82 (Or.inr ⟨rfl, rfl, rfl⟩) (fun v => by cases v <;> rfl) (fun v => by cases v <;> rfl) dX12_init_215 (by rw [va_up_ne _ _ (by rw [h24.1]; omega), (h24.2.2.1 m (Nat.le_refl _)).1]; exact ho) ?_
  refine V.mpre (h24.step (by decide)) (fun z t1 R1 J1 h25 => ?_)
  refine V_aload dX12_init_218 rfl ?_
  refine V_const dX12_init_219 ?_
  refine V_newa w_arr rfl (by decide) (hA _ (by rw [h25.1]; omega)) (by decide) (by decide) dX12_init_222 ?_
  refine V_putR fk_X12_85 (Or.inr ⟨rfl, rfl, rfl⟩) (fun v => by cases v <;> rfl) (fun v => by cases v <;> rfl) dX12_init_224 (by rw [va_up_ne _ _ (by rw [h25.1]; omega), (h25.2.2.1 m (Nat.le_refl _)).1]; exact ho) ?_
  refine V.mpre (h25.step (by decide)) (fun z t1 R1 J1 h26 => ?_)
  refine V_aload dX12_init_227 rfl ?_
  refine V_const dX12_init_228 ?_
  refine V_newa w_arr rfl (by decide) (hA _ (by rw [h26.1]; omega)) (by decide) (by decide) dX12_init_230 ?_
  refine V_putR fk_X12_88 (Or.inr ⟨rfl, rfl, rfl⟩) (fun v => by cases v <;> rfl) (fun v => by cases v <;> rfl) dX12_init_232 (by rw [va_up_ne _ _ (by rw [h26.1]; omega), (h26.2.2.1 m (Nat.le_refl _)).1]; exact ho) ?_
  refine V.mpre (h26.step (by decide)) (fun z t1 R1 J1 h27 => ?_)
  refine V_aload dX12_init_235 rfl ?_
  refine V_const dX12_init_236 ?_
  refine V_newa w_arr rfl (by decide) (hA _ (by rw [h27.1]; omega)) (by decide) (by decide) dX12_init_239 ?_
  refine V_putR fk_X12_91 (Or.inr ⟨rfl, rfl, rfl⟩) (fun v => by cases v <;> rfl) (fun v => by cases v <;> rfl) dX12_init_241 (by rw [va_up_ne _ _ (by rw [h27.1]; omega), (h27.2.2.1 m (Nat.le_refl _)).1]; exact ho) ?_
  refine V.mpre (h27.step (by decide)) (fun z t1 R1 J1 h28 => ?_)
  refine V_aload dX12_init_244 rfl ?_
  refine V_const dX12_init_245 ?_
  refine V_newa w_arr rfl (by decide) (hA _ (by rw [h28.1]; omega)) (by decide) (by decide) dX12_init_248 ?_
  refine V_putR fk_X12_94 (Or.inr ⟨rfl, rfl, rfl⟩) (fun v => by cases v <;> rfl) (fun v => by cases v <;> rfl) dX12_init_250 (by rw [va_up_ne _ _ (by rw [h28.1]; omega), (h28.2.2.1 m (Nat.le_refl _)).1]; exact ho) ?_
  refine V.mpre (h28.step (by decide)) (fun z t1 R1 J1 h29 => ?_)
  refine V_aload dX12_init_253 rfl ?_
  refine V_const dX12_init_254 ?_
  refine V_newa w_arr rfl (by decide) (hA _ (by rw [h29.1]; omega)) (by decide) (by decide) dX12_init_257 ?_
  refine V_putR fk_X12_97 (Or.inr ⟨rfl, rfl, rfl⟩) (fun v => by cases v <;> rfl) (fun v => by cases v <;> rfl) dX12_init_259 (by rw [va_up_ne _ _ (by rw [h29.1]; omega), (h29.2.2.1 m (Nat.le_refl _)).1]; exact ho) ?_
  refine V.mpre (h29.step (by decide)) (fun z t1 R1 J1 h30 => ?_)
  refine V_aload dX12_init_262 rfl ?_
  refine V_const dX12_init_263 ?_
  refine V_newa w_arr rfl (by decide) (hA _ (by rw [h30.1]; omega)) (by decide) (by decide) dX12_init_266 ?_
  refine V_putR fk_X12_100 (Or.inr ⟨rfl, rfl, rfl⟩) (fun v => by cases v <;> rfl) (fun v => by cases v <;> rfl) dX12_init_268 (by rw [va_up_ne _ _ (by rw [h30.1]; omega), (h30.2.2.1 m (Nat.le_refl _)).1]; exact ho) ?_
  refine V.mpre (h30.step (by decide)) (fun z t1 R1 J1 h31 => ?_)
  refine V_aload dX12_init_271 rfl ?_
  refine V_const dX12_init_272 ?_
  refine V_newa w_arr rfl (by decide) (hA _ (by rw [h31.1]; omega)) (by decide) (by decide) dX12_init_275 ?_
  refine V_putR fk_X12_103 (Or.inr ⟨rfl, rfl, rfl⟩) (fun v => by cases v <;> rfl) (fun v => by cases v <;> rfl) dX12_init_277 (by rw [va_up_ne _ _ (by rw [h31.1]; omega), (h31.2.2.1 m (Nat.le_refl _)).1]; exact ho) ?_
  refine V.mpre (h31.step (by decide)) (fun z t1 R1 J1 h32 => ?_)
  refine V_aload dX12_init_280 rfl ?_
  refine V_const dX12_init_281 ?_
  refine V_newa w_arr rfl (by decide) (hA _ (by rw [h32.1]; omega)) (by decide) (by decide) dX12_init_284 ?_
  refine V_putR fk_X12_106 (Or.inr ⟨rfl, rfl, rfl⟩) (fun v => by cases v <;> rfl) (fun v => by cases v <;> rfl) dX12_init_286 (by rw [va_up_ne _ _ (by rw [h32.1]; omega), (h32.2.2.1 m (Nat.le_refl _)).1]; exact ho) ?_
  refine V.mpre (h32.step (by decide)) (fun z t1 R1 J1 h33 => ?_)
  refine V_aload dX12_init_289 rfl ?_
  refine V_const dX12_init_290 ?_
  refine V_newa w_arr rfl (by decide) (hA _ (by rw [h33.1]; omega)) (by decide) (by decide) dX12_init_293 ?_
  refine V_putR fk_X12_109 (Or.inr ⟨rfl, rfl, rfl⟩) (fun v => by cases v <;> rfl) (fun v => by cases v <;> rfl) dX12_init_295 (by rw [va_up_ne _ _ (by rw [h33.1]; omega), (h33.2.2.1 m (Nat.le_refl _)).1]; exact ho) ?_
  refine V.mpre (h33.step (by decide)) (fun z t1 R1 J1 h34 => ?_)
  refine V_aload dX12_init_298 rfl ?_
  refine V_const dX12_init_299 ?_
  refine V_newa w_arr rfl (by decide) (hA _ (by rw [h34.1]; omega)) (by decide) (by decide) dX12_init_302 ?_
  refine V_putR fk_X12_112 (Or.inr ⟨rfl, rfl, rfl⟩) (fun v => by cases v <;> rfl) (fun v => by cases v <;> rfl) dX12_init_304 (by rw [va_up_ne _ _ (by rw [h34.1]; omega), (h34.2.2.1 m (Nat.le_refl _)).1]; exact ho) ?_
  refine V.mpre (h34.step (by decide)) (fun z t1 R1 J1 h35 => ?_)
  have hM := h35.st ho
  refine V_const dX12_init_307 ?_
  refine V_is1 dX12_init_308 (by decide) (noL_r _) ?_
  obtain ⟨hz, g1, g2, g3⟩ := h35
  subst hz
  refine V.sub (lsS (lsS ls0)) (lp_X12_i1 (J0 := J1) hM (fun J2 f1 v1 => ?_) 4 0 J1 rfl (fun _ _ => rfl) (fun j hj => absurd hj (Nat.not_lt_zero j)))
  refine V_const dX12_init_328 ?_
  refine V_is1 dX12_init_329 (by decide) (noL_r _) ?_
  refine V.sub (lsS (lsS ls0)) (lp_X12_i2 (J0 := J2) hM (fun J3 f2 v2 => ?_) 64 0 J2 rfl (fun _ _ => rfl) (fun j hj => absurd hj (Nat.not_lt_zero j)))
  exact V_vret dX12_init_349 rfl (by decide) (by decide) (q t1 R1 J3 hM ⟨fun a i h1 h2 h3 h4 => by rw [f2 a h4, f1 a h3, show a = m + 1 + (a - (m + 1)) by omega, (g1 (a - (m + 1)) (by omega)).2.2], fun k hk => by rw [f2 _ (by omega)]; exact v1 k hk, v2⟩ (fun a ha => ⟨(g2 a ha).1, by rw [f2 a (by omega), f1 a (by omega)]; exact (g2 a ha).2⟩) g3)
