-- CONTRACT, in the class
theorem cl_n1 {f : Nat → Int32} {n a : Nat} (h : a ≤ n) {e : Nat} {r : Option CC} (hc : clA f n a = (e, r)) : e ≤ n := by
  have := clA_n (f := f) h
  rw [hc] at this
  exact this
theorem pr_le {f : Nat → Int32} {n : Nat} : ∀ (k a : Nat) (acc : List CC), a ≤ n → ∀ p, (prA f n k a acc).1 = some p → p ≤ n
  | 0, a, acc, h, p, hp => by rw [prA] at hp; cases hp; exact h
  | k + 1, a, acc, h, p, hp => by
    rw [prA] at hp
    rcases hcl : clA f n a with ⟨e, _ | c⟩
    · rw [hcl] at hp; cases hp; exact cl_n1 h hcl
    · rw [hcl] at hp
      have h1 : sk f n e ≤ n := sk_n (cl_n1 h hcl)
      dsimp only at hp
      split at hp
      · cases hp
      · split at hp
        · rename_i h2
          exact pr_le k _ _ (byA_eq h2 (by decide)) p hp
        · cases hp; exact h1
theorem rd_le0 {f : Nat → Int32} {n p : Nat} (h : (rdA f n).1 = some p) : p ≤ n := by
  unfold rdA at h
  split at h
  · cases h
  · exact pr_le 34 _ [] (sk_n (Nat.zero_le n)) p h
theorem rd_le {f : Nat → Int32} {n p : Nat} (h : (rdA f n).1 = some p) : p ≤ n := rd_le0 h
set_option maxHeartbeats 4000000 in
theorem sem_X11_contract {l : Launch} {D : va_G} {A : Nat → Prop} {z : Nat} {t : TT} {I : MI} {R : MR} {J : MI} {B : MR} {x n co a0 a1 a2 a3 : Nat} {mk : Int32} {Φ : PP} (hX : XSt x t I R B) (hn : I 1001 (x + 129) = nI n) (hn2 : n ≤ 200) (hsp : R 1109 x = some co) (hco : CoSt t R co a0 a1 a2 a3) (hd : Dis4 a0 a1 a2 a3) (hab : x + 130 ≠ a0 ∧ x + 130 ≠ a1 ∧ x + 130 ≠ a2 ∧ x + 130 ≠ a3) (hz : x + 141 ≤ z) (hA : ∀ q, z ≤ q → A q) (q0 : ¬ (0 ≤ mk ∧ mk ≤ 9) → Φ (some (.int 0)) z t I R J B) (q1 : 0 ≤ mk ∧ mk ≤ 9 → ¬ (rdA (J (x + 130)) n).1 = none → ∀ (J' : MI) (e : Nat), (∀ b, b ≠ a0 → b ≠ a1 → b ≠ a2 → b ≠ a3 → J' b = J b) → Φ (some (.int 0)) z t (up2 (up2 I 4 co (nI (rdA (J (x + 130)) n).2.length)) 601 (x + 131) (nI e)) R J' B) (q2 : ∀ j old, j < 10 → mk = nI j → (rdA (J (x + 130)) n).1 = none → B (x + 132) j = some old → ∀ (J' : MI) (e : Nat), (∀ b, b ≠ a0 → b ≠ a1 → b ≠ a2 → b ≠ a3 → J' b = J b) → CoHas J' a0 a1 a2 a3 (rdA (J (x + 130)) n).2 → Φ (some (.int 1)) z t (up2 (up2 (up2 I 4 co (nI (rdA (J (x + 130)) n).2.length)) 601 (x + 131) (nI e)) 1001 (x + 129) 0) (up2 R 1109 x (some old)) J' (up2 B (x + 132) j (some co))) (q : ∀ j, j < 10 → mk = nI j → (rdA (J (x + 130)) n).1 = none → B (x + 132) j = none → ∀ (J' : MI) (e : Nat), (∀ b, b ≠ a0 → b ≠ a1 → b ≠ a2 → b ≠ a3 → J' b = J b) → CoHas J' a0 a1 a2 a3 (rdA (J (x + 130)) n).2 → Φ (some (.int 1)) (z + 1 + 4) (va_up (va_up (va_up (va_up (va_up t z (1, 0)) (z + 1) (20, 34)) (z + 1 + 1) (20, 34)) (z + 1 + 2) (20, 34)) (z + 1 + 3) (20, 34)) (up2 (zI (up2 (up2 I 4 co (nI (rdA (J (x + 130)) n).2.length)) 601 (x + 131) (nI e)) z) 1001 (x + 129) 0) (up2 (up2 (up2 (up2 (up2 (zR R z) 0 z (some (z + 1))) 1 z (some (z + 1 + 1))) 2 z (some (z + 1 + 2))) 3 z (some (z + 1 + 3))) 1109 x (some z)) (va_up (va_up (va_up (va_up J' (z + 1) (fun _ => 0)) (z + 1 + 1) (fun _ => 0)) (z + 1 + 2) (fun _ => 0)) (z + 1 + 3) (fun _ => 0)) (up2 B (x + 132) j (some co))) : Sem l D A 6 5 141 mX11_contract [va_rf (some x), .int mk] z t I R J B Φ := by
  refine Sem.run [some (va_rf (some x)), some (.int mk), none] (by decide) rfl (ent_r (ent_i (ent_none ent_nil))) ?_
  refine V.lt (fun hlt => ?_)
  refine V_iload dX11_contract_0 rfl ?_
  refine V_const dX11_contract_1 ?_
  refine V_const dX11_contract_2 ?_
  refine V_invS (As := [_, _, _]) ms_X11_within lk_X11_89 dX11_contract_4 rfl rfl rfl (Nat.le_of_ble_eq_true rfl) ⟨⟨by decide, by decide⟩, by decide, by decide⟩ (sem_X11_within ?_)
  refine V_if_eq dX11_contract_7 (fun hc7 => ?_) (fun hc7 => ?_)
  · rw [bI_0] at hc7
    refine V_const dX11_contract_25 ?_
    exact V_zret dX11_contract_26 rfl (by first | exact Or.inl rfl | exact Or.inr rfl) (by decide) (by decide) (q0 hc7)
  · rw [bI_n0] at hc7
    refine V_aload dX11_contract_10 rfl ?_
    refine V_getRs fk_X11_63 dX11_contract_11 hX.hx hX.rd.1 ?_
    refine V_aload dX11_contract_14 rfl ?_
    refine V_getRs fk_X11_74 dX11_contract_15 hX.hx hsp ?_
    refine V_invV (As := [_]) mv_X6_read lk_X11_230 dX11_contract_18 (c := 6) (by decide) rfl rfl hX.rd.2.1 rfl rfl (Nat.le_of_ble_eq_true rfl) ⟨⟨by decide, by decide⟩, by decide, by decide⟩ (sem_X6_read ⟨hX.rd.2.1, hX.rd.2.2, hX.tp.2.1, hX.tp.2.2.1, hX.tp.2.2.2, hn, hn2⟩ hco hd hab (fun J' e g1 g2 => ?_))
    refine V_const dX11_contract_21 ?_
    refine V_icmp_eq dX11_contract_22 (fun hc22 => ?_) (fun hc22 => ?_)
    · have hnone : (rdA (J (x + 130)) n).1 = none := (oI_none (fun b hb => by have := rd_le hb; omega)).mp hc22
      obtain ⟨j, hj, hvj⟩ := i_rng (N := 10) rfl hc7
      refine V_aload dX11_contract_27 rfl ?_
      refine V_getRs fk_X11_69 dX11_contract_28 hX.hx hX.co.1 ?_
      refine V_iload dX11_contract_31 rfl ?_
      refine V_aald (j := 4) dX11_contract_32 rfl (by decide) hX.co.2 hvj hj (by decide) ?_
      refine V_as2 dX11_contract_33 (by decide) (noL_i _) ?_
      refine V_aload dX11_contract_34 rfl ?_
      refine V_getRs fk_X11_69 dX11_contract_35 hX.hx hX.co.1 ?_
      refine V_iload dX11_contract_38 rfl ?_
      refine V_aload dX11_contract_39 rfl ?_
      refine V_getRs fk_X11_74 dX11_contract_40 hX.hx hsp ?_
      refine V_aast (j := 4) dX11_contract_43 rfl hX.co.2 hco.1 (by decide) ⟨rfl, by decide⟩ hvj hj (by decide) ?_
      refine V_aload dX11_contract_44 rfl ?_
      refine V_aload dX11_contract_45 rfl ?_
      refine V_ifnonnull dX11_contract_46 (fun a46 hs46 => ?_) (fun hn46 => ?_)
      · rw [hs46]
        refine V_aload dX11_contract_59 rfl ?_
        refine V_putR fk_X11_74 (Or.inl rfl) (fun v => by cases v <;> rfl) (fun v => by cases v <;> rfl) dX11_contract_60 hX.hx ?_
        refine V_aload dX11_contract_63 rfl ?_
        refine V_getRs fk_X11_54 dX11_contract_64 hX.hx ((up2n (by decide)).trans hX.tp.1) ?_
        refine V_const dX11_contract_67 ?_
        refine V_putI fk_X11_224 (Or.inl rfl) rfl rfl dX11_contract_68 hX.tp.2.1 ?_
        refine V_const dX11_contract_71 ?_
        exact V_zret dX11_contract_72 rfl (by first | exact Or.inl rfl | exact Or.inr rfl) (by decide) (by decide) (q2 j a46 hj hvj hnone hs46 J' e g1 g2)
      · refine V_new (c := 0) (by decide) rfl rfl ck_X11_67 wn_X0 wi_X0 (hA _ (Nat.le_refl _)) (by decide) (by decide) dX11_contract_49 ?_
        refine V_dupr dX11_contract_52 ?_
        refine V_invI (As := []) mc_X0_init lk_X11_73 dX11_contract_53 rfl rfl (Nat.le_of_ble_eq_true rfl) ⟨⟨by decide, by decide⟩, by decide, by decide⟩ (sem_X0_init (by rw [va_up_self]) (fun q hq => hA q (by omega)) ?_)
        refine V_goto dX11_contract_56 ?_
        refine V_putR fk_X11_74 (Or.inl rfl) (fun v => by cases v <;> rfl) (fun v => by cases v <;> rfl) dX11_contract_60 (by rw [va_up_ne _ _ (by omega), va_up_ne _ _ (by omega), va_up_ne _ _ (by omega), va_up_ne _ _ (by omega), va_up_ne _ _ (by omega)]; exact hX.hx) ?_
        refine V_aload dX11_contract_63 rfl ?_
        refine V_getRs fk_X11_54 dX11_contract_64 (by rw [va_up_ne _ _ (by omega), va_up_ne _ _ (by omega), va_up_ne _ _ (by omega), va_up_ne _ _ (by omega), va_up_ne _ _ (by omega)]; exact hX.hx) ((up2n (by decide)).trans ((up2n (by decide)).trans ((up2n (by decide)).trans ((up2n (by decide)).trans ((up2n (by decide)).trans ((zR_ne _ _ (by omega)).trans hX.tp.1)))))) ?_
        refine V_const dX11_contract_67 ?_
        refine V_putI fk_X11_224 (Or.inl rfl) rfl rfl dX11_contract_68 (by rw [va_up_ne _ _ (by omega), va_up_ne _ _ (by omega), va_up_ne _ _ (by omega), va_up_ne _ _ (by omega), va_up_ne _ _ (by omega)]; exact hX.tp.2.1) ?_
        refine V_const dX11_contract_71 ?_
        exact V_zret dX11_contract_72 rfl (by first | exact Or.inl rfl | exact Or.inr rfl) (by decide) (by decide) (q j hj hvj hnone hn46 J' e g1 g2)
    · have hsome : ¬ (rdA (J (x + 130)) n).1 = none := fun h => hc22 (by rw [h]; rfl)
      refine V_const dX11_contract_25 ?_
      exact V_zret dX11_contract_26 rfl (by first | exact Or.inl rfl | exact Or.inr rfl) (by decide) (by decide) (q1 hc7 hsome J' e g1)
