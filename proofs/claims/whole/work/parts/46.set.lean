-- THE SETTINGS AND THE TAPE
theorem xPl_inj {x a b : Nat} (h : xPl x a = xPl x b) : a = b := by unfold xPl at h; omega
theorem xKd_inj {x a b : Nat} (h : xKd x a = xKd x b) : a = b := by unfold xKd at h; omega
theorem in_rng {p M : Int32} {j b : Nat} (hj : j < b + 1) (e : p = nI j) (hM : M.toInt = (b : Int)) (hb : b < 1000 := by decide) : 0 ≤ p ∧ p ≤ M := Nn.rng (b := b) ⟨j, by omega, e⟩ hM (by omega)
theorem st_men {l : Launch} {D : va_G} {A : Nat → Prop} {x m z : Nat} {t : TT} {I : MI} {R : MR} {J : MI} {B : MR} {p a : Int32} (h : Ok x m z t I R J B) : Pr l D A 2 0 0 2 mX11_men mX12_men [.int p, .int a] x m z t I R J B := by
  have hO := h
  obtain ⟨n, w, la, si, L, ns, sv, tn, co, ct, cc, ⟨hm, hz⟩, hX, hM, hP, hN, hW, hL, hC, hS, hK, hU, hT, hQ⟩ := h
  refine sem_X11_men hX (fun ho => ?_) (fun j hj e1 e2 => ?_)
  · exact ⟨_, rfl, hM.1, sem_X12_men hM (fun _ => ⟨rfl, hO⟩) (fun j hj e1 e2 => absurd ⟨in_rng (b := 7) hj e1 rfl, e2⟩ ho)⟩
  · refine ⟨_, rfl, hM.1, sem_X12_men hM (fun ho => absurd ⟨in_rng (b := 7) hj e1 rfl, e2⟩ ho) (fun j' hj' e1' e2' => ?_)⟩
    have ej : j' = j := nI_inj (e1'.symm.trans e1) (by omega) (by omega)
    subst ej
    have hP2 : PmR x m (up2 I 501 (xPl x j') a) (up2 J (m + 1) j' a) := by
      obtain ⟨h1, h2, h3, h4, h5⟩ := hP
      refine ⟨fun q hq => ?_, fun q hq => ?_, fun k hk => ?_, fun k i hk hi => ?_, fun q r hq hr => ?_⟩
      · by_cases e : q = j'
        · subst e; rw [up2s, up2s]; exact ⟨rfl, Nn.of rfl e2⟩
        · rw [up2o (fun c => e (xPl_inj c)), up2o e]; exact h1 q hq
      · rw [up2n (by decide), up2n (by omega)]; exact h2 q hq
      · rw [up2n (by decide), up2n (by omega)]; exact h3 k hk
      · have := xKd_lt (x := x) hk
        rw [up2n (by omega), up2n (by omega)]; exact h4 k i hk hi
      · rw [up2n (by omega), up2n (by omega)]; exact h5 q r hq hr
    exact ⟨rfl, ⟨n, w, la, si, L, ns, sv, tn, co, ct, cc, ⟨hm, hz⟩, hX.mono (fun _ _ => rfl) (fun f a _ hf => by rcases hf with rfl | rfl | rfl <;> rfl) (fun _ _ _ _ => rfl) (fun _ _ _ _ _ _ => rfl), hM, hP2, hN.fr rfl rfl, hW.fr (Nat.le_refl _) rfl (fun _ _ => rfl) (by simp (disch := omega) only [up2_ne, va_up_ne]) (fun a ha ht hb => by simp (disch := omega) only [up2_ne, va_up_ne]), hL.fr (Nat.le_refl _) rfl rfl rfl (fun _ _ => rfl) (fun f a h1 h2 _ => by simp (disch := omega) only [up2n]) (fun _ _ => rfl) (fun a h1 h2 => (by simp (disch := omega) only [up2_ne, va_up_ne])), hC.fr hL.2.1 rfl (fun _ _ => rfl) (fun _ _ => rfl) (by simp (disch := omega) only [up2_ne, va_up_ne]), hS.fr (fun _ _ => rfl) (fun _ _ => rfl) (fun _ _ => rfl) (fun a h1 h2 => (by simp (disch := omega) only [up2_ne, va_up_ne])), hK.fr rfl rfl rfl rfl rfl (by simp (disch := omega) only [up2_ne, va_up_ne]) (by simp (disch := omega) only [up2_ne, va_up_ne]), hU.fr (Nat.le_refl _) rfl rfl (fun _ _ => rfl) (fun _ _ => rfl) (fun _ _ => rfl) (fun _ _ => rfl) (fun _ _ => rfl) (by simp (disch := omega) only [up2_ne, va_up_ne]) (by simp (disch := omega) only [up2_ne, va_up_ne]) (by simp (disch := omega) only [up2_ne, va_up_ne]), hT.fr rfl rfl (by simp (disch := omega) only [up2_ne, va_up_ne]) (by simp (disch := omega) only [up2_ne, va_up_ne]), hQ.fr hm (Nat.le_refl _) rfl (fun _ _ => rfl) (fun _ _ _ _ => rfl) (fun _ _ _ => rfl) rfl (fun a ha ht hb => by simp (disch := omega) only [up2_ne, va_up_ne]) (fun a h1 h2 => (by simp (disch := omega) only [up2_ne, va_up_ne]))⟩⟩
theorem st_lag {l : Launch} {D : va_G} {A : Nat → Prop} {x m z : Nat} {t : TT} {I : MI} {R : MR} {J : MI} {B : MR} {p a : Int32} (h : Ok x m z t I R J B) : Pr l D A 2 0 0 2 mX11_lag mX12_lag [.int p, .int a] x m z t I R J B := by
  have hO := h
  obtain ⟨n, w, la, si, L, ns, sv, tn, co, ct, cc, ⟨hm, hz⟩, hX, hM, hP, hN, hW, hL, hC, hS, hK, hU, hT, hQ⟩ := h
  refine sem_X11_lag hX (fun ho => ?_) (fun j hj e1 e2 => ?_)
  · exact ⟨_, rfl, hM.1, sem_X12_lag hM (fun _ => ⟨rfl, hO⟩) (fun j hj e1 e2 => absurd ⟨in_rng (b := 7) hj e1 rfl, e2⟩ ho)⟩
  · refine ⟨_, rfl, hM.1, sem_X12_lag hM (fun ho => absurd ⟨in_rng (b := 7) hj e1 rfl, e2⟩ ho) (fun j' hj' e1' e2' => ?_)⟩
    have ej : j' = j := nI_inj (e1'.symm.trans e1) (by omega) (by omega)
    subst ej
    have hP2 : PmR x m (up2 I 502 (xPl x j') a) (up2 J (m + 5) j' a) := by
      obtain ⟨h1, h2, h3, h4, h5⟩ := hP
      refine ⟨fun q hq => ?_, fun q hq => ?_, fun k hk => ?_, fun k i hk hi => ?_, fun q r hq hr => ?_⟩
      · rw [up2n (by decide), up2n (by omega)]; exact h1 q hq
      · by_cases e : q = j'
        · subst e; rw [up2s, up2s]; exact ⟨rfl, Nn.of rfl e2⟩
        · rw [up2o (fun c => e (xPl_inj c)), up2o e]; exact h2 q hq
      · rw [up2n (by decide), up2n (by omega)]; exact h3 k hk
      · have := xKd_lt (x := x) hk
        rw [up2n (by omega), up2n (by omega)]; exact h4 k i hk hi
      · rw [up2n (by omega), up2n (by omega)]; exact h5 q r hq hr
    exact ⟨rfl, ⟨n, w, la, si, L, ns, sv, tn, co, ct, cc, ⟨hm, hz⟩, hX.mono (fun _ _ => rfl) (fun f a _ hf => by rcases hf with rfl | rfl | rfl <;> rfl) (fun _ _ _ _ => rfl) (fun _ _ _ _ _ _ => rfl), hM, hP2, hN.fr rfl rfl, hW.fr (Nat.le_refl _) rfl (fun _ _ => rfl) (by simp (disch := omega) only [up2_ne, va_up_ne]) (fun a ha ht hb => by simp (disch := omega) only [up2_ne, va_up_ne]), hL.fr (Nat.le_refl _) rfl rfl rfl (fun _ _ => rfl) (fun f a h1 h2 _ => by simp (disch := omega) only [up2n]) (fun _ _ => rfl) (fun a h1 h2 => (by simp (disch := omega) only [up2_ne, va_up_ne])), hC.fr hL.2.1 rfl (fun _ _ => rfl) (fun _ _ => rfl) (by simp (disch := omega) only [up2_ne, va_up_ne]), hS.fr (fun _ _ => rfl) (fun _ _ => rfl) (fun _ _ => rfl) (fun a h1 h2 => (by simp (disch := omega) only [up2_ne, va_up_ne])), hK.fr rfl rfl rfl rfl rfl (by simp (disch := omega) only [up2_ne, va_up_ne]) (by simp (disch := omega) only [up2_ne, va_up_ne]), hU.fr (Nat.le_refl _) rfl rfl (fun _ _ => rfl) (fun _ _ => rfl) (fun _ _ => rfl) (fun _ _ => rfl) (fun _ _ => rfl) (by simp (disch := omega) only [up2_ne, va_up_ne]) (by simp (disch := omega) only [up2_ne, va_up_ne]) (by simp (disch := omega) only [up2_ne, va_up_ne]), hT.fr rfl rfl (by simp (disch := omega) only [up2_ne, va_up_ne]) (by simp (disch := omega) only [up2_ne, va_up_ne]), hQ.fr hm (Nat.le_refl _) rfl (fun _ _ => rfl) (fun _ _ _ _ => rfl) (fun _ _ _ => rfl) rfl (fun a ha ht hb => by simp (disch := omega) only [up2_ne, va_up_ne]) (fun a h1 h2 => (by simp (disch := omega) only [up2_ne, va_up_ne]))⟩⟩
theorem st_rations {l : Launch} {D : va_G} {A : Nat → Prop} {x m z : Nat} {t : TT} {I : MI} {R : MR} {J : MI} {B : MR} {p a : Int32} (h : Ok x m z t I R J B) : Pr l D A 2 0 0 2 mX11_rations mX12_rations [.int p, .int a] x m z t I R J B := by
  have hO := h
  obtain ⟨n, w, la, si, L, ns, sv, tn, co, ct, cc, ⟨hm, hz⟩, hX, hM, hP, hN, hW, hL, hC, hS, hK, hU, hT, hQ⟩ := h
  refine sem_X11_rations hX (fun ho => ?_) (fun j hj e1 e2 => ?_)
  · exact ⟨_, rfl, hM.1, sem_X12_rations hM (fun _ => ⟨rfl, hO⟩) (fun j hj e1 e2 => absurd ⟨in_rng (b := 3) hj e1 rfl, e2⟩ ho)⟩
  · refine ⟨_, rfl, hM.1, sem_X12_rations hM (fun ho => absurd ⟨in_rng (b := 3) hj e1 rfl, e2⟩ ho) (fun j' hj' e1' e2' => ?_)⟩
    have ej : j' = j := nI_inj (e1'.symm.trans e1) (by omega) (by omega)
    subst ej
    have hP2 : PmR x m (up2 I 102 (xKd x j') a) (up2 J (m + 2) j' a) := by
      obtain ⟨h1, h2, h3, h4, h5⟩ := hP
      refine ⟨fun q hq => ?_, fun q hq => ?_, fun k hk => ?_, fun k i hk hi => ?_, fun q r hq hr => ?_⟩
      · rw [up2n (by decide), up2n (by omega)]; exact h1 q hq
      · rw [up2n (by decide), up2n (by omega)]; exact h2 q hq
      · by_cases e : k = j'
        · subst e; rw [up2s, up2s]; exact ⟨rfl, e2.1, Nn.of rfl ⟨Int32.le_trans (by decide) e2.1, e2.2⟩⟩
        · rw [up2o (fun c => e (xKd_inj c)), up2o e]; exact h3 k hk
      · have := xKd_lt (x := x) hk
        rw [up2n (by omega), up2n (by omega)]; exact h4 k i hk hi
      · rw [up2n (by omega), up2n (by omega)]; exact h5 q r hq hr
    exact ⟨rfl, ⟨n, w, la, si, L, ns, sv, tn, co, ct, cc, ⟨hm, hz⟩, hX.mono (fun _ _ => rfl) (fun f a _ hf => by rcases hf with rfl | rfl | rfl <;> rfl) (fun _ _ _ _ => rfl) (fun _ _ _ _ _ _ => rfl), hM, hP2, hN.fr rfl rfl, hW.fr (Nat.le_refl _) rfl (fun _ _ => rfl) (by simp (disch := omega) only [up2_ne, va_up_ne]) (fun a ha ht hb => by simp (disch := omega) only [up2_ne, va_up_ne]), hL.fr (Nat.le_refl _) rfl rfl rfl (fun _ _ => rfl) (fun f a h1 h2 _ => by simp (disch := omega) only [up2n]) (fun _ _ => rfl) (fun a h1 h2 => (by simp (disch := omega) only [up2_ne, va_up_ne])), hC.fr hL.2.1 rfl (fun _ _ => rfl) (fun _ _ => rfl) (by simp (disch := omega) only [up2_ne, va_up_ne]), hS.fr (fun _ _ => rfl) (fun _ _ => rfl) (fun _ _ => rfl) (fun a h1 h2 => (by simp (disch := omega) only [up2_ne, va_up_ne])), hK.fr rfl rfl rfl rfl rfl (by simp (disch := omega) only [up2_ne, va_up_ne]) (by simp (disch := omega) only [up2_ne, va_up_ne]), hU.fr (Nat.le_refl _) rfl rfl (fun _ _ => rfl) (fun _ _ => rfl) (fun _ _ => rfl) (fun _ _ => rfl) (fun _ _ => rfl) (by simp (disch := omega) only [up2_ne, va_up_ne]) (by simp (disch := omega) only [up2_ne, va_up_ne]) (by simp (disch := omega) only [up2_ne, va_up_ne]), hT.fr rfl rfl (by simp (disch := omega) only [up2_ne, va_up_ne]) (by simp (disch := omega) only [up2_ne, va_up_ne]), hQ.fr hm (Nat.le_refl _) rfl (fun _ _ => rfl) (fun _ _ _ _ => rfl) (fun _ _ _ => rfl) rfl (fun a ha ht hb => by simp (disch := omega) only [up2_ne, va_up_ne]) (fun a h1 h2 => (by simp (disch := omega) only [up2_ne, va_up_ne]))⟩⟩
theorem st_spoils {l : Launch} {D : va_G} {A : Nat → Prop} {x m z : Nat} {t : TT} {I : MI} {R : MR} {J : MI} {B : MR} {p a b : Int32} (h : Ok x m z t I R J B) : Pr l D A 2 0 0 2 mX11_spoils mX12_spoils [.int p, .int a, .int b] x m z t I R J B := by
  have hO := h
  obtain ⟨n, w, la, si, L, ns, sv, tn, co, ct, cc, ⟨hm, hz⟩, hX, hM, hP, hN, hW, hL, hC, hS, hK, hU, hT, hQ⟩ := h
  refine sem_X11_spoils hX (fun ho => ?_) (fun j i hj hi e1 e2 e4 => ?_)
  · exact ⟨_, rfl, hM.1, sem_X12_spoils hM (fun _ => ⟨rfl, hO⟩) (fun j i hj hi e1 e2 e4 => absurd ⟨in_rng (b := 3) hj e1 rfl, in_rng (b := 9) hi e2 rfl, e4⟩ ho)⟩
  · refine ⟨_, rfl, hM.1, sem_X12_spoils hM (fun ho => absurd ⟨in_rng (b := 3) hj e1 rfl, in_rng (b := 9) hi e2 rfl, e4⟩ ho) (fun j' i' hj' hi' e1' e2' e4' => ?_)⟩
    have ej : j' = j := nI_inj (e1'.symm.trans e1) (by omega) (by omega)
    have ei : i' = i := nI_inj (e2'.symm.trans e2) (by omega) (by omega)
    subst ej
    subst ei
    have hP2 : PmR x m I (up2 (up2 J (xKd x j' + 1) i' b) (m + 3) (10 * j' + i') b) := by
      obtain ⟨h1, h2, h3, h4, h5⟩ := hP
      have hkj := xKd_lt (x := x) hj
      refine ⟨fun q hq => ?_, fun q hq => ?_, fun k hk => ?_, fun k i hk hi => ?_, fun q r hq hr => ?_⟩
      · rw [up2n (by omega), up2n (by omega)]; exact h1 q hq
      · rw [up2n (by omega), up2n (by omega)]; exact h2 q hq
      · rw [up2n (by omega), up2n (by omega)]; exact h3 k hk
      · have := xKd_lt (x := x) hk
        rw [up2n (show xKd x k + 1 ≠ m + 3 by omega)]
        by_cases e : k = j'
        · subst e
          by_cases e3 : i = i'
          · subst e3; rw [up2s, up2s]; exact ⟨rfl, Nn.of rfl e4⟩
          · rw [up2o e3, up2o (by omega), up2n (by omega)]; exact h4 k i hk hi
        · rw [up2n (fun c => e (xKd_inj (x := x) (by omega))), up2o (by omega), up2n (by omega)]; exact h4 k i hk hi
      · rw [up2n (by omega), up2n (by omega), up2n (by omega), up2n (by omega)]; exact h5 q r hq hr
    have hkj := xKd_lt (x := x) hj
    exact ⟨rfl, ⟨n, w, la, si, L, ns, sv, tn, co, ct, cc, ⟨hm, hz⟩, hX.mono (fun _ _ => rfl) (fun f a _ hf => by rcases hf with rfl | rfl | rfl <;> rfl) (fun _ _ _ _ => rfl) (fun _ _ _ _ _ _ => rfl), hM, hP2, hN.fr rfl rfl, hW.fr (Nat.le_refl _) rfl (fun _ _ => rfl) (by simp (disch := omega) only [up2_ne, va_up_ne]) (fun a9 ha ht hb => by rw [up2_ne _ _ _ (by omega), up2_ne _ _ _ (fun e => by rw [e, (hX.kd.2.2 j' hj).2.2.2.2] at ht; cases ht)]), hL.fr (Nat.le_refl _) rfl rfl rfl (fun _ _ => rfl) (fun f a h1 h2 _ => by simp (disch := omega) only [up2n]) (fun _ _ => rfl) (fun a h1 h2 => (by simp (disch := omega) only [up2_ne, va_up_ne])), hC.fr hL.2.1 rfl (fun _ _ => rfl) (fun _ _ => rfl) (by simp (disch := omega) only [up2_ne, va_up_ne]), hS.fr (fun _ _ => rfl) (fun _ _ => rfl) (fun _ _ => rfl) (fun a h1 h2 => (by simp (disch := omega) only [up2_ne, va_up_ne])), hK.fr rfl rfl rfl rfl rfl (by simp (disch := omega) only [up2_ne, va_up_ne]) (by simp (disch := omega) only [up2_ne, va_up_ne]), hU.fr (Nat.le_refl _) rfl rfl (fun _ _ => rfl) (fun _ _ => rfl) (fun _ _ => rfl) (fun _ _ => rfl) (fun _ _ => rfl) (by simp (disch := omega) only [up2_ne, va_up_ne]) (by simp (disch := omega) only [up2_ne, va_up_ne]) (by simp (disch := omega) only [up2_ne, va_up_ne]), hT.fr rfl rfl (by simp (disch := omega) only [up2_ne, va_up_ne]) (by simp (disch := omega) only [up2_ne, va_up_ne]), hQ.fr hm (Nat.le_refl _) rfl (fun _ _ => rfl) (fun _ _ _ _ => rfl) (fun _ _ _ => rfl) rfl (fun a9 ha ht hb => by rw [up2_ne _ _ _ (by omega), up2_ne _ _ _ (fun e => by rw [e, (hX.kd.2.2 j' hj).2.2.2.2] at ht; cases ht)]) (fun a h1 h2 => (by simp (disch := omega) only [up2_ne, va_up_ne]))⟩⟩
theorem st_way {l : Launch} {D : va_G} {A : Nat → Prop} {x m z : Nat} {t : TT} {I : MI} {R : MR} {J : MI} {B : MR} {a b wk : Int32} (h : Ok x m z t I R J B) : Pr l D A 2 0 0 2 mX11_way mX12_way [.int a, .int b, .int wk] x m z t I R J B := by
  have hO := h
  obtain ⟨n, w, la, si, L, ns, sv, tn, co, ct, cc, ⟨hm, hz⟩, hX, hM, hP, hN, hW, hL, hC, hS, hK, hU, hT, hQ⟩ := h
  have ne : ∀ i j : Nat, i < 8 → j < 8 → i ≠ j → a = nI i → b = nI j → a ≠ b := fun i j hi hj hne e1 e2 e => hne (nI_inj (e1.symm.trans (e.trans e2)) (by omega) (by omega))
  refine sem_X11_way hX (fun ho => ?_) (fun i j hi hj hne e1 e2 e4 => ?_)
  · exact ⟨_, rfl, hM.1, sem_X12_way hM (fun _ => ⟨rfl, hO⟩) (fun i j hi hj hne e1 e2 e4 => absurd ⟨in_rng (b := 7) hi e1 rfl, in_rng (b := 7) hj e2 rfl, ne i j hi hj hne e1 e2, e4⟩ ho)⟩
  · refine ⟨_, rfl, hM.1, sem_X12_way hM (fun ho => absurd ⟨in_rng (b := 7) hi e1 rfl, in_rng (b := 7) hj e2 rfl, ne i j hi hj hne e1 e2, e4⟩ ho) (fun i' j' hi' hj' hne' e1' e2' e4' => ?_)⟩
    have ej : j' = j := nI_inj (e2'.symm.trans e2) (by omega) (by omega)
    have ei : i' = i := nI_inj (e1'.symm.trans e1) (by omega) (by omega)
    subst ej
    subst ei
    have hP2 : PmR x m I (up2 (up2 (up2 (up2 J (x + 7 + i') j' wk) (x + 7 + j') i' wk) (m + 4) (8 * i' + j') wk) (m + 4) (8 * j' + i') wk) := by
      obtain ⟨h1, h2, h3, h4, h5⟩ := hP
      refine ⟨fun q hq => ?_, fun q hq => ?_, fun k hk => ?_, fun k i hk hi => ?_, fun q r hq hr => ?_⟩
      · rw [up2n (by omega), up2n (by omega), up2n (by omega), up2n (by omega)]; exact h1 q hq
      · rw [up2n (by omega), up2n (by omega), up2n (by omega), up2n (by omega)]; exact h2 q hq
      · rw [up2n (by omega), up2n (by omega), up2n (by omega), up2n (by omega)]; exact h3 k hk
      · have := xKd_lt (x := x) hk
        rw [up2n (by omega), up2n (by omega), up2n (by omega), up2n (by omega), up2n (by omega), up2n (by omega), up2n (by omega), up2n (by omega)]; exact h4 k i hk hi
      · rw [up2n (show x + 7 + q ≠ m + 4 by omega), up2n (show x + 7 + q ≠ m + 4 by omega)]
        by_cases c1 : q = j' ∧ r = i'
        · obtain ⟨rfl, rfl⟩ := c1
          rw [up2s, up2s]; exact ⟨rfl, Nn.of rfl e4⟩
        · by_cases c2 : q = i' ∧ r = j'
          · obtain ⟨rfl, rfl⟩ := c2
            rw [up2n (show x + 7 + q ≠ x + 7 + r by omega), up2s, up2o (show 8 * q + r ≠ 8 * r + q by omega), up2s]; exact ⟨rfl, Nn.of rfl e4⟩
          · rw [up2_at (by omega), up2_at (by omega), up2o (by omega), up2o (by omega), up2n (show m + 4 ≠ x + 7 + j' by omega), up2n (show m + 4 ≠ x + 7 + i' by omega)]
            exact h5 q r hq hr
    exact ⟨rfl, ⟨n, w, la, si, L, ns, sv, tn, co, ct, cc, ⟨hm, hz⟩, hX.mono (fun _ _ => rfl) (fun f a _ hf => by rcases hf with rfl | rfl | rfl <;> rfl) (fun _ _ _ _ => rfl) (fun _ _ _ _ _ _ => rfl), hM, hP2, hN.fr rfl rfl, hW.fr (Nat.le_refl _) rfl (fun _ _ => rfl) (by simp (disch := omega) only [up2_ne, va_up_ne]) (fun a9 ha ht hb => by rw [up2_ne _ _ _ (by omega), up2_ne _ _ _ (by omega), up2_ne _ _ _ (fun e => by rw [e, (hX.wy.2.2 j' hj).2] at ht; cases ht), up2_ne _ _ _ (fun e => by rw [e, (hX.wy.2.2 i' hi).2] at ht; cases ht)]), hL.fr (Nat.le_refl _) rfl rfl rfl (fun _ _ => rfl) (fun f a h1 h2 _ => by simp (disch := omega) only [up2n]) (fun _ _ => rfl) (fun a h1 h2 => (by simp (disch := omega) only [up2_ne, va_up_ne])), hC.fr hL.2.1 rfl (fun _ _ => rfl) (fun _ _ => rfl) (by simp (disch := omega) only [up2_ne, va_up_ne]), hS.fr (fun _ _ => rfl) (fun _ _ => rfl) (fun _ _ => rfl) (fun a h1 h2 => (by simp (disch := omega) only [up2_ne, va_up_ne])), hK.fr rfl rfl rfl rfl rfl (by simp (disch := omega) only [up2_ne, va_up_ne]) (by simp (disch := omega) only [up2_ne, va_up_ne]), hU.fr (Nat.le_refl _) rfl rfl (fun _ _ => rfl) (fun _ _ => rfl) (fun _ _ => rfl) (fun _ _ => rfl) (fun _ _ => rfl) (by simp (disch := omega) only [up2_ne, va_up_ne]) (by simp (disch := omega) only [up2_ne, va_up_ne]) (by simp (disch := omega) only [up2_ne, va_up_ne]), hT.fr rfl rfl (by simp (disch := omega) only [up2_ne, va_up_ne]) (by simp (disch := omega) only [up2_ne, va_up_ne]), hQ.fr hm (Nat.le_refl _) rfl (fun _ _ => rfl) (fun _ _ _ _ => rfl) (fun _ _ _ => rfl) rfl (fun a9 ha ht hb => by rw [up2_ne _ _ _ (by omega), up2_ne _ _ _ (by omega), up2_ne _ _ _ (fun e => by rw [e, (hX.wy.2.2 j' hj).2] at ht; cases ht), up2_ne _ _ _ (fun e => by rw [e, (hX.wy.2.2 i' hi).2] at ht; cases ht)]) (fun a h1 h2 => (by simp (disch := omega) only [up2_ne, va_up_ne]))⟩⟩
theorem st_end {l : Launch} {D : va_G} {A : Nat → Prop} {x m z : Nat} {t : TT} {I : MI} {R : MR} {J : MI} {B : MR} {a : Int32} (h : Ok x m z t I R J B) : Pr l D A 1 0 0 0 mX11_end mX12_end [.int a] x m z t I R J B := by
  have hO := h
  obtain ⟨n, w, la, si, L, ns, sv, tn, co, ct, cc, ⟨hm, hz⟩, hX, hM, hP, hN, hW, hL, hC, hS, hK, hU, hT, hQ⟩ := h
  have e9 : I 1001 (x + 129) = I 1231 m := hT.1.trans hT.2.1.symm
  refine sem_X11_end hX (fun ho => ?_) (fun hv => ?_)
  · exact ⟨_, rfl, hM.1, sem_X12_end hM (fun _ => ⟨rfl, hO⟩) (fun hv => absurd (by rw [e9]; exact hv) ho)⟩
  · refine ⟨_, rfl, hM.1, sem_X12_end hM (fun ho => absurd (show 0 ≤ a ∧ a ≤ I 1231 m by rw [← e9]; exact hv) ho) (fun _ => ?_)⟩
    have ht2 := hT.2.2.1
    obtain ⟨k, hk, ek⟩ := Nn.of (b := tn) (M := nI tn) (nI_toInt (by omega)) (by rw [← hT.1]; exact hv)
    have hT2 : TpR x m k (up2 (up2 I 1001 (x + 129) a) 1231 m a) J := ⟨by rw [up2n (by decide), up2s]; exact ek, by rw [up2s]; exact ek, by omega, hT.2.2.2⟩
    exact ⟨rfl, ⟨n, w, la, si, L, ns, sv, k, co, ct, cc, ⟨hm, hz⟩, hX.mono (fun _ _ => rfl) (fun f a _ hf => by rcases hf with rfl | rfl | rfl <;> rfl) (fun _ _ _ _ => rfl) (fun _ _ _ _ _ _ => rfl), hM, hP.fr (fun _ _ => rfl) (fun _ _ => rfl) (fun _ _ => rfl) (fun a ha => (by simp (disch := omega) only [up2_ne, va_up_ne])), hN.fr rfl rfl, hW.fr (Nat.le_refl _) rfl (fun _ _ => rfl) (by simp (disch := omega) only [up2_ne, va_up_ne]) (fun a ha ht hb => by simp (disch := omega) only [up2_ne, va_up_ne]), hL.fr (Nat.le_refl _) rfl rfl rfl (fun _ _ => rfl) (fun f a h1 h2 _ => by simp (disch := omega) only [up2n]) (fun _ _ => rfl) (fun a h1 h2 => (by simp (disch := omega) only [up2_ne, va_up_ne])), hC.fr hL.2.1 rfl (fun _ _ => rfl) (fun _ _ => rfl) (by simp (disch := omega) only [up2_ne, va_up_ne]), hS.fr (fun _ _ => rfl) (fun _ _ => rfl) (fun _ _ => rfl) (fun a h1 h2 => (by simp (disch := omega) only [up2_ne, va_up_ne])), hK.fr rfl rfl rfl rfl rfl (by simp (disch := omega) only [up2_ne, va_up_ne]) (by simp (disch := omega) only [up2_ne, va_up_ne]), hU.fr (Nat.le_refl _) rfl rfl (fun _ _ => rfl) (fun _ _ => rfl) (fun _ _ => rfl) (fun _ _ => rfl) (fun _ _ => rfl) (by simp (disch := omega) only [up2_ne, va_up_ne]) (by simp (disch := omega) only [up2_ne, va_up_ne]) (by simp (disch := omega) only [up2_ne, va_up_ne]), hT2, hQ.fr hm (Nat.le_refl _) rfl (fun _ _ => rfl) (fun _ _ _ _ => rfl) (fun _ _ _ => rfl) rfl (fun a ha ht hb => by simp (disch := omega) only [up2_ne, va_up_ne]) (fun a h1 h2 => (by simp (disch := omega) only [up2_ne, va_up_ne]))⟩⟩
