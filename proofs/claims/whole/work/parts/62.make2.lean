-- THE CLASS'S CONSTRUCTOR ONCE MORE: the tape is empty
theorem sem_X11_init2 {l : Launch} {D : va_G} {A : Nat → Prop} {t : TT} {I : MI} {R : MR} {J : MI} {B : MR} {x : Nat} {Φ : PP} (ho : (t x).1 = 12) (hI : ∀ f, I f x = 0) (hA : ∀ q, x ≤ q → A q) (q : ∀ (t2 : TT) (I2 : MI) (R2 : MR) (J2 : MI) (B2 : MR), XIn x t2 I2 R2 J2 B2 → J2 (x + 130) = (fun _ => 0) → Φ none (x + 141) t2 I2 R2 J2 B2) : Sem l D A 3 140 1550 mX11_init [va_rf (some x)] (x + 1) t I R J B Φ := by
  refine Sem.run [some (va_rf (some x)), none, none, none] (by decide) rfl (ent_r (ent_none (ent_none (ent_none ent_nil)))) ?_
  refine V_aload dX11_init_0 rfl ?_
  refine V_objInit dX11_init_1 lk_X11_3 w_oi1 w_oi2 (by decide) (by decide) (Nat.le_of_ble_eq_true rfl) ?_
  refine V_aload dX11_init_4 rfl ?_
  refine V_const dX11_init_5 ?_
  refine V_newq (j := 0) (by decide) rfl rfl ck_X11_9 rfl (by decide) (hA _ (by omega)) (by decide) (by decide) dX11_init_7 ?_
  refine V_putR fk_X11_11 (Or.inr ⟨rfl, rfl, rfl⟩) (fun v => by cases v <;> rfl) (fun v => by cases v <;> rfl) dX11_init_10 (by rw [va_up_ne _ _ (by omega)]; exact ho) ?_
  refine V_aload dX11_init_13 rfl ?_
  refine V_const dX11_init_14 ?_
  refine V_newq (j := 1) (by decide) rfl rfl ck_X11_15 rfl (by decide) (hA _ (by omega)) (by decide) (by decide) dX11_init_15 ?_
  refine V_putR fk_X11_17 (Or.inr ⟨rfl, rfl, rfl⟩) (fun v => by cases v <;> rfl) (fun v => by cases v <;> rfl) dX11_init_18 (by rw [va_up_ne _ _ (by omega), va_up_ne _ _ (by omega)]; exact ho) ?_
  refine V_aload dX11_init_21 rfl ?_
  refine V_const dX11_init_22 ?_
  refine V_newq (j := 2) (by decide) rfl rfl ck_X11_21 rfl (by decide) (hA _ (by omega)) (by decide) (by decide) dX11_init_24 ?_
  refine V_putR fk_X11_23 (Or.inr ⟨rfl, rfl, rfl⟩) (fun v => by cases v <;> rfl) (fun v => by cases v <;> rfl) dX11_init_27 (by rw [va_up_ne _ _ (by omega), va_up_ne _ _ (by omega), va_up_ne _ _ (by omega)]; exact ho) ?_
  refine V_aload dX11_init_30 rfl ?_
  refine V_const dX11_init_31 ?_
  refine V_newqA ck_X11_27 (by rfl) (by decide) (hA _ (by omega)) (by decide) (by decide) dX11_init_34 ?_
  refine V_putR fk_X11_29 (Or.inr ⟨rfl, rfl, rfl⟩) (fun v => by cases v <;> rfl) (fun v => by cases v <;> rfl) dX11_init_37 (by rw [va_up_ne _ _ (by omega), va_up_ne _ _ (by omega), va_up_ne _ _ (by omega), va_up_ne _ _ (by omega)]; exact ho) ?_
  refine V_aload dX11_init_40 rfl ?_
  refine V_getRs fk_X11_29 dX11_init_41 (by rw [va_up_ne _ _ (by omega), va_up_ne _ _ (by omega), va_up_ne _ _ (by omega), va_up_ne _ _ (by omega)]; exact ho) up2s ?_
  refine V_const dX11_init_44 ?_
  refine V_const dX11_init_45 ?_
  refine V_newa w_arr rfl (by decide) (hA _ (by omega)) (by decide) (by decide) dX11_init_47 ?_
  refine V_aasta dX11_init_49 (N := 201) (N' := 32) (i := 0) (by rw [va_up_ne _ _ (by omega), va_up_self]) (by rw [va_up_self]) rfl (by decide) (by decide) ?_
  refine V_aload dX11_init_50 rfl ?_
  refine V_const dX11_init_51 ?_
  refine V_const dX11_init_53 ?_
  refine V_mna ck_X11_33 w_arr (N := 8) (M := 8) (by rfl) (by rfl) (by decide) (by decide) (fun q hq => hA q (by omega)) (by decide) (by decide) dX11_init_55 ?_
  refine V_putR fk_X11_34 (Or.inr ⟨rfl, rfl, rfl⟩) (fun v => by cases v <;> rfl) (fun v => by cases v <;> rfl) dX11_init_59 (by simp [mnT, va_up, Nat.add_assoc]; rw [if_neg (by omega)]; exact ho) ?_
  refine V_const dX11_init_62 ?_
  refine V_is1 dX11_init_63 (by decide) (noL_r _) ?_
  refine V.widen (k' := 14 + 2 * 0) (n' := 349 + 13 * 0) (by decide) (by decide) ?_
  refine V.sub (lsS (lsE rfl (lsN (lsN ls0)))) (lp_X11_ik hA (fun z1 t1 I1 R1 J1 B1 h1 => ?_) 4 0 _ _ _ _ _ _ rfl ⟨by omega, ?_, fun j hj => absurd hj (Nat.not_lt_zero j)⟩)
  refine V_const dX11_init_89 ?_
  refine V_is1 dX11_init_90 (by decide) (noL_r _) ?_
  refine V.widen (k' := 22 + 13 * 0) (n' := 401 + 51 * 0) (by decide) (by decide) ?_
  refine V.sub (lsS (lsE rfl (lsN (lsN ls0)))) (lp_X11_ip hA (fun z2 t2 I2 R2 J2 B2 h2 => ?_) 8 0 _ _ _ _ _ _ rfl ⟨by have := h1.1; omega, h1.2.1, h1.2.2, fun j hj => absurd hj (Nat.not_lt_zero j), fun j hj => absurd hj (Nat.not_lt_zero j), fun j q hj => absurd hj (Nat.not_lt_zero j)⟩)
  obtain ⟨hz, hb, hk, hp, hs, hw⟩ := h2
  have hz : z2 = x + 127 := by omega
  subst hz
  have ho2 := hb.1
  refine V_aload dX11_init_185 rfl ?_
  refine V_new (c := 4) (by decide) rfl rfl ck_X11_44 wn_X4 wi_X4 (hA _ (by omega)) (by decide) (by decide) dX11_init_186 ?_
  refine V_dupr dX11_init_189 ?_
  refine V_invI (As := []) mc_X4_init lk_X11_46 dX11_init_190 rfl rfl (Nat.le_of_ble_eq_true rfl) ⟨⟨by decide, by decide⟩, by decide, by decide⟩ (sem_X4_init (by rw [va_up_self]) (by omega) (fun q hq => hA q (by omega)) ?_)
  refine V_putR fk_X11_47 (Or.inr ⟨rfl, rfl, rfl⟩) (fun v => by cases v <;> rfl) (fun v => by cases v <;> rfl) dX11_init_193 (by rw [va_up_ne _ _ (by omega), va_up_ne _ _ (by omega)]; exact ho2) ?_
  refine V_aload dX11_init_196 rfl ?_
  refine V_new (c := 10) (by decide) rfl rfl ck_X11_51 wn_X10 wi_X10 (hA _ (by omega)) (by decide) (by decide) dX11_init_197 ?_
  refine V_dupr dX11_init_200 ?_
  refine V_invI (As := []) mc_X10_init lk_X11_53 dX11_init_201 rfl rfl (Nat.le_of_ble_eq_true rfl) ⟨⟨by decide, by decide⟩, by decide, by decide⟩ (sem_X10_init (by rw [va_up_self]) (by omega) (fun q hq => hA q (by omega)) ?_)
  refine V_putR fk_X11_54 (Or.inr ⟨rfl, rfl, rfl⟩) (fun v => by cases v <;> rfl) (fun v => by cases v <;> rfl) dX11_init_204 (by rw [va_up_ne _ _ (by omega), va_up_ne _ _ (by omega), va_up_ne _ _ (by omega), va_up_ne _ _ (by omega)]; exact ho2) ?_
  refine V_aload dX11_init_207 rfl ?_
  refine V_new (c := 6) (by decide) rfl rfl ck_X11_58 wn_X6 wi_X6 (hA _ (by omega)) (by decide) (by decide) dX11_init_208 ?_
  refine V_dupr dX11_init_211 ?_
  refine V_aload dX11_init_212 rfl ?_
  refine V_getRs fk_X11_54 dX11_init_213 (by rw [va_up_ne _ _ (by omega), va_up_ne _ _ (by omega), va_up_ne _ _ (by omega), va_up_ne _ _ (by omega), va_up_ne _ _ (by omega)]; exact ho2) ((zR_ne _ _ (by omega)).trans up2s) ?_
  refine V_invI (As := [_]) mc_X6_init lk_X11_60 dX11_init_216 rfl rfl (Nat.le_of_ble_eq_true rfl) ⟨⟨by decide, by decide⟩, by decide, by decide⟩ (sem_X6_init (by rw [va_up_self]) ?_)
  refine V_putR fk_X11_63 (Or.inr ⟨rfl, rfl, rfl⟩) (fun v => by cases v <;> rfl) (fun v => by cases v <;> rfl) dX11_init_219 (by rw [va_up_ne _ _ (by omega), va_up_ne _ _ (by omega), va_up_ne _ _ (by omega), va_up_ne _ _ (by omega), va_up_ne _ _ (by omega)]; exact ho2) ?_
  refine V_aload dX11_init_222 rfl ?_
  refine V_const dX11_init_223 ?_
  refine V_newq (j := 4) (by decide) rfl rfl ck_X11_67 rfl (by decide) (hA _ (by omega)) (by decide) (by decide) dX11_init_225 ?_
  refine V_putR fk_X11_69 (Or.inr ⟨rfl, rfl, rfl⟩) (fun v => by cases v <;> rfl) (fun v => by cases v <;> rfl) dX11_init_228 (by rw [va_up_ne _ _ (by omega), va_up_ne _ _ (by omega), va_up_ne _ _ (by omega), va_up_ne _ _ (by omega), va_up_ne _ _ (by omega), va_up_ne _ _ (by omega)]; exact ho2) ?_
  refine V_aload dX11_init_231 rfl ?_
  refine V_new (c := 0) (by decide) rfl rfl ck_X11_67 wn_X0 wi_X0 (hA _ (by omega)) (by decide) (by decide) dX11_init_232 ?_
  refine V_dupr dX11_init_235 ?_
  refine V_invI (As := []) mc_X0_init lk_X11_73 dX11_init_236 rfl rfl (Nat.le_of_ble_eq_true rfl) ⟨⟨by decide, by decide⟩, by decide, by decide⟩ (sem_X0_init (by rw [va_up_self]) (fun q hq => hA q (by omega)) ?_)
  refine V_putR fk_X11_74 (Or.inl rfl) (fun v => by cases v <;> rfl) (fun v => by cases v <;> rfl) dX11_init_239 (by rw [va_up_ne _ _ (by omega), va_up_ne _ _ (by omega), va_up_ne _ _ (by omega), va_up_ne _ _ (by omega), va_up_ne _ _ (by omega), va_up_ne _ _ (by omega), va_up_ne _ _ (by omega), va_up_ne _ _ (by omega), va_up_ne _ _ (by omega), va_up_ne _ _ (by omega), va_up_ne _ _ (by omega)]; exact ho2) ?_
  refine V_aload dX11_init_242 rfl ?_
  refine V_new (c := 2) (by decide) rfl rfl ck_X11_78 wn_X2 wi_X2 (hA _ (by omega)) (by decide) (by decide) dX11_init_243 ?_
  refine V_dupr dX11_init_246 ?_
  refine V_invI (As := []) mc_X2_init lk_X11_80 dX11_init_247 rfl rfl (Nat.le_of_ble_eq_true rfl) ⟨⟨by decide, by decide⟩, by decide, by decide⟩ (sem_X2_init (by rw [va_up_self]) (by omega) (fun q hq => hA q (by omega)) ?_)
  refine V_putR fk_X11_81 (Or.inr ⟨rfl, rfl, rfl⟩) (fun v => by cases v <;> rfl) (fun v => by cases v <;> rfl) dX11_init_250 (by rw [va_up_ne _ _ (by omega), va_up_ne _ _ (by omega), va_up_ne _ _ (by omega), va_up_ne _ _ (by omega), va_up_ne _ _ (by omega), va_up_ne _ _ (by omega), va_up_ne _ _ (by omega), va_up_ne _ _ (by omega), va_up_ne _ _ (by omega), va_up_ne _ _ (by omega), va_up_ne _ _ (by omega), va_up_ne _ _ (by omega), va_up_ne _ _ (by omega), va_up_ne _ _ (by omega)]; exact ho2) ?_
  refine V_vret dX11_init_253 rfl (by decide) (by decide) (q _ _ _ _ _ ?_ ?_)
  · refine XIn_of hb hk hp hs hw (fun a ha => ?_) (fun f a ha => ?_) (fun f a ha hf => ?_) (fun a ha => ?_) (fun a ha => ?_) ?_ ?_ ?_ ?_ ?_ ?_ ?_ ?_ ?_
    · simp (disch := omega) only [va_up_ne]
    · simp (disch := omega) only [zI_ne]
    · simp (disch := omega) only [up2n, up2o, zR_ne]
    · simp (disch := omega) only [va_up_ne]
    · simp (disch := omega) only [va_up_ne]
    · refine ⟨?_, ?_, ?_, ?_⟩ <;> simp [up2, va_up, zR, Nat.add_assoc]
    · refine ⟨?_, ?_, ?_, ?_⟩ <;> simp [up2, va_up, zR, Nat.add_assoc]
    · refine ⟨?_, ?_, ?_⟩ <;> simp [up2, va_up, zR, Nat.add_assoc]
    · refine ⟨?_, ?_⟩ <;> simp [up2, va_up, zR, Nat.add_assoc]
    · refine ⟨?_, ?_, ?_, ?_, ?_, ?_⟩ <;> simp [up2, va_up, zR, Nat.add_assoc]
    · refine ⟨?_, ?_⟩ <;> simp [up2, va_up, zR, zI, Nat.add_assoc]
    · simp [zI, Nat.add_assoc]
    · refine ⟨?_, ?_, ⟨?_, ?_⟩, ⟨?_, ?_⟩, ⟨?_, ?_⟩, ?_, ?_⟩ <;> simp [up2, va_up, zR, Nat.add_assoc]
    · intro j
      simp [va_up, Nat.add_assoc]
  · simp [va_up, Nat.add_assoc]
  · refine ⟨by simp [mnT, va_up, Nat.add_assoc]; rw [if_neg (by omega)]; exact ho, hI, ⟨by simp [up2, va_up, Nat.add_assoc], by simp [mnT, va_up, Nat.add_assoc]⟩, ⟨by simp [up2, va_up, Nat.add_assoc], by simp [mnT, va_up, Nat.add_assoc]⟩, ⟨by simp [up2, va_up, Nat.add_assoc], by simp [mnT, va_up, Nat.add_assoc]⟩, ⟨by simp [up2, va_up, Nat.add_assoc], by simp [mnT, va_up, Nat.add_assoc]⟩, ⟨by simp [mnB, va_up, Nat.add_assoc], by simp [mnT, va_up, Nat.add_assoc], by simp [mnJ, va_up, Nat.add_assoc]⟩, ⟨by simp [up2, va_up, Nat.add_assoc], by simp [mnT, Nat.add_assoc]⟩, fun p hp => ⟨?_, ?_⟩⟩
    · rw [show x + 6 = x + 1 + 1 + 1 + 1 + 1 + 1 by omega, mnB, va_up_self, if_pos hp]
    · rw [mnT, if_neg (by omega), if_pos (by omega)]
