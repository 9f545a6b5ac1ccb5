-- THE CLASS'S READER: a tape; FAULT and CONTRACT
theorem a6A_n {f : Nat → Int32} {n a : Nat} (h : a ≤ n) : a6A f n a ≤ n := by
  unfold a6A
  split
  · rename_i e; exact byA_eq e (by decide)
  · exact h
theorem clA_n {f : Nat → Int32} {n a : Nat} (h : a ≤ n) : (clA f n a).1 ≤ n := by
  have h1 : sk f n a ≤ n := sk_n h
  unfold clA
  split
  · rename_i g1
    have l1 : sk f n a < n := byA_lt (fun e => by rw [e] at g1; exact absurd g1 (by decide))
    have h2 : sk f n (sk f n a + 1) ≤ n := sk_n (by omega)
    unfold clB
    split
    · rename_i g2
      have l2 : sk f n (sk f n a + 1) < n := byA_lt (fun e => by rw [e] at g2; exact absurd g2 (by decide))
      have hb : sk f n (sk f n a + 1) + 1 ≤ n := l2
      generalize sk f n (sk f n a + 1) + 1 = b at hb ⊢
      have h3 : sk f n b ≤ n := sk_n hb
      · have h4 : (dgA f n 5 (sk f n b) 0).1 ≤ n := dgA_n _ _ _ h3
        have h5 : sk f n (dgA f n 5 (sk f n b) 0).1 ≤ n := sk_n h4
        unfold clC
        split
        · exact h3
        · split
          · rename_i g3
            have l5 : sk f n (dgA f n 5 (sk f n b) 0).1 < n := byA_eq g3 (by decide)
            have h6 := a6A_n (f := f) (sk_n (f := f) (a := sk f n (dgA f n 5 (sk f n b) 0).1 + 1) (n := n) (by omega))
            unfold clD
            split
            · exact h6
            · exact dgA_n _ _ _ h6
          · exact h5
    · exact h2
  · exact h1
/-- clauses, with ; between -/
def prA (f : Nat → Int32) (n : Nat) : Nat → Nat → List CC → Option Nat × List CC
  | 0, a, acc => (some a, acc)
  | k + 1, a, acc => match clA f n a with
    | (e, none) => (some e, acc)
    | (e, some c) => if byA f n (sk f n e) = -1 then (none, acc ++ [c]) else if byA f n (sk f n e) = 59 then prA f n k (sk f n e + 1) (acc ++ [c]) else (some (sk f n e), acc ++ [c])
def rdA (f : Nat → Int32) (n : Nat) : Option Nat × List CC := if byA f n (sk f n 0) = -1 then (none, []) else prA f n 34 (sk f n 0) []
def CoHas (J : MI) (a0 a1 a2 a3 : Nat) (acc : List CC) : Prop := ∀ (j : Nat) (c : CC), acc[j]? = some c → J a0 j = c.1 ∧ J a1 j = c.2.1 ∧ J a2 j = c.2.2.1 ∧ J a3 j = c.2.2.2
def Dis4 (a0 a1 a2 a3 : Nat) : Prop := a0 ≠ a1 ∧ a0 ≠ a2 ∧ a0 ≠ a3 ∧ a1 ≠ a2 ∧ a1 ≠ a3 ∧ a2 ≠ a3
theorem CoHas.add {J : MI} {a0 a1 a2 a3 : Nat} {acc : List CC} (h : CoHas J a0 a1 a2 a3 acc) (hd : Dis4 a0 a1 a2 a3) (q : CC) : CoHas (up2 (up2 (up2 (up2 J a0 acc.length q.1) a1 acc.length q.2.1) a2 acc.length q.2.2.1) a3 acc.length q.2.2.2) a0 a1 a2 a3 (acc ++ [q]) := by
  obtain ⟨d1, d2, d3, d4, d5, d6⟩ := hd
  intro j c hj
  have e0 : ∀ x y v w, up2 (up2 (up2 (up2 J a0 acc.length x) a1 acc.length y) a2 acc.length v) a3 acc.length w a0 = va_up (J a0) acc.length x := fun x y v w => by rw [up2_ne _ _ _ d3, up2_ne _ _ _ d2, up2_ne _ _ _ d1, up2_self]
  have e1 : ∀ x y v w, up2 (up2 (up2 (up2 J a0 acc.length x) a1 acc.length y) a2 acc.length v) a3 acc.length w a1 = va_up (J a1) acc.length y := fun x y v w => by rw [up2_ne _ _ _ d5, up2_ne _ _ _ d4, up2_self, up2_ne _ _ _ (Ne.symm d1)]
  have e2 : ∀ x y v w, up2 (up2 (up2 (up2 J a0 acc.length x) a1 acc.length y) a2 acc.length v) a3 acc.length w a2 = va_up (J a2) acc.length v := fun x y v w => by rw [up2_ne _ _ _ d6, up2_self, up2_ne _ _ _ (Ne.symm d4), up2_ne _ _ _ (Ne.symm d2)]
  have e3 : ∀ x y v w, up2 (up2 (up2 (up2 J a0 acc.length x) a1 acc.length y) a2 acc.length v) a3 acc.length w a3 = va_up (J a3) acc.length w := fun x y v w => by rw [up2_self, up2_ne _ _ _ (Ne.symm d6), up2_ne _ _ _ (Ne.symm d5), up2_ne _ _ _ (Ne.symm d3)]
  rw [e0, e1, e2, e3]
  rcases Nat.lt_trichotomy j acc.length with g | g | g
  · rw [List.getElem?_append_left g] at hj
    rw [va_up_ne _ _ (by omega), va_up_ne _ _ (by omega), va_up_ne _ _ (by omega), va_up_ne _ _ (by omega)]
    exact h j c hj
  · subst g
    rw [List.getElem?_append_right (Nat.le_refl _), Nat.sub_self] at hj
    cases hj
    rw [va_up_self, va_up_self, va_up_self, va_up_self]
    exact ⟨rfl, rfl, rfl, rfl⟩
  · rw [List.getElem?_append_right (by omega), List.getElem?_eq_none (by simp; omega)] at hj
    cases hj
theorem lp_X6_read {l : Launch} {D : va_G} {A : Nat → Prop} {z : Nat} {t : TT} {I : MI} {R : MR} {B : MR} {o tp ab n co a0 a1 a2 a3 : Nat} {J0 : MI} {Φ : PP} (hr : RdOk t I R o tp ab n) (hco : CoSt t R co a0 a1 a2 a3) (hd : Dis4 a0 a1 a2 a3) (hab : ab ≠ a0 ∧ ab ≠ a1 ∧ ab ≠ a2 ∧ ab ≠ a3) : ∀ (k i a : Nat) (acc : List CC) (J : MI), i + k = 34 → acc.length = i → a ≤ n → CoHas J a0 a1 a2 a3 acc → (∀ b, b ≠ a0 → b ≠ a1 → b ≠ a2 → b ≠ a3 → J b = J0 b) → (∀ (J' : MI) (e : Nat), (∀ b, b ≠ a0 → b ≠ a1 → b ≠ a2 → b ≠ a3 → J' b = J0 b) → CoHas J' a0 a1 a2 a3 (prA (J0 ab) n k a acc).2 → Φ (some (.int (oI (prA (J0 ab) n k a acc).1))) z t (up2 (up2 I 4 co (nI (prA (J0 ab) n k a acc).2.length)) 601 o (nI e)) R J' B) → V l D A (rmm 5 0 0) mX6_read (KS D A 0 0 Φ) 0 0 z t (up2 (up2 I 4 co (nI i)) 601 o (nI a)) R J B 26 [some (va_rf (some o)), some (va_rf (some co)), some (.int (nI i))] [] := by
  have hn2 := hr.2.2.2.2.2.2
  intro k
  induction k with
  | zero =>
    intro i a acc J hik hl ha hac hJ q
    have hi : i = 34 := by omega
    rw [prA] at q
    refine V_iload dX6_read_26 rfl ?_
    refine V_const dX6_read_27 ?_
    refine V_icmp_ge dX6_read_29 (fun hc29 => ?_) (fun hc29 => ?_)
    · refine V_aload dX6_read_79 rfl ?_
      refine V_getIs fk_X6_15 dX6_read_80 hr.1 up2s ?_
      exact V_iret dX6_read_83 rfl (by decide) (by decide) (by have h9 := q J a hJ hac; rw [hl] at h9; exact h9)
    · exact absurd (show nI 34 ≤ nI i by rw [hi]; exact Int32.le_refl _) hc29
  | succ k ih =>
    intro i a acc J hik hl ha hac hJ q
    have hJf : J ab = J0 ab := hJ ab hab.1 hab.2.1 hab.2.2.1 hab.2.2.2
    have hrI : ∀ c : Nat, RdOk t (up2 I 4 co (nI c)) R o tp ab n := fun c => ⟨hr.1, hr.2.1, hr.2.2.1, hr.2.2.2.1, hr.2.2.2.2.1, (up2n (by decide)).trans hr.2.2.2.2.2.1, hn2⟩
    have hen := clA_n (f := J0 ab) ha
    rw [prA] at q
    refine V_iload dX6_read_26 rfl ?_
    refine V_const dX6_read_27 ?_
    refine V_icmp_ge dX6_read_29 (fun hc29 => ?_) (fun hc29 => ?_)
    · exact absurd hc29 (show ¬ nI 34 ≤ nI i from nI_ge (by omega) (by decide))
    · refine V_aload dX6_read_32 rfl ?_
      refine V_aload dX6_read_33 rfl ?_
      refine V_invV (As := [_]) mv_X6_readClause lk_X6_31 dX6_read_34 (c := 6) (by decide) rfl rfl hr.1 rfl rfl (Nat.le_of_ble_eq_true rfl) ⟨⟨by decide, by decide⟩, by decide, by decide⟩ (sem_X6_readClause (hrI i) hco up2s (by omega) ha ?_)
      rw [hJf]
      rcases hcl : clA (J0 ab) n a with ⟨e, _ | cq⟩
      · dsimp only [clQ]
        rw [hcl] at q hen
        refine V_if_ne dX6_read_37 (fun hc37 => ?_) (fun hc37 => ?_)
        · exact absurd rfl hc37
        · refine V_aload dX6_read_40 rfl ?_
          refine V_getIs fk_X6_15 dX6_read_41 hr.1 up2s ?_
          exact V_iret dX6_read_44 rfl (by decide) (by decide) (by have h9 := q J e hJ hac; rw [hl] at h9; exact h9)
      · dsimp only [clQ]
        rw [up2_uu]
        rw [hcl] at q hen
        dsimp only at q hen
        have hJ2 : ∀ b, b ≠ a0 → b ≠ a1 → b ≠ a2 → b ≠ a3 → (up2 (up2 (up2 (up2 J a0 i cq.1) a1 i cq.2.1) a2 i cq.2.2.1) a3 i cq.2.2.2) b = J0 b := fun b h0 h1 h2 h3 => by rw [up2_ne _ _ _ h3, up2_ne _ _ _ h2, up2_ne _ _ _ h1, up2_ne _ _ _ h0]; exact hJ b h0 h1 h2 h3
        have hac2 : CoHas (up2 (up2 (up2 (up2 J a0 i cq.1) a1 i cq.2.1) a2 i cq.2.2.1) a3 i cq.2.2.2) a0 a1 a2 a3 (acc ++ [cq]) := by rw [← hl]; exact hac.add hd cq
        have hJf2 := hJ2 ab hab.1 hab.2.1 hab.2.2.1 hab.2.2.2
        have hl2 : (acc ++ [cq]).length = i + 1 := by simp [hl]
        have hse : sk (J0 ab) n e ≤ n := sk_n hen
        generalize (up2 (up2 (up2 (up2 J a0 i cq.1) a1 i cq.2.1) a2 i cq.2.2.1) a3 i cq.2.2.2) = J2 at *
        refine V_if_ne dX6_read_37 (fun hc37 => ?_) (fun hc37 => ?_)
        · refine V_aload dX6_read_45 rfl ?_
          refine V_invV (As := []) mv_X6_skipBlanks lk_X6_24 dX6_read_46 (c := 6) (by decide) rfl rfl hr.1 rfl rfl (Nat.le_of_ble_eq_true rfl) ⟨⟨by decide, by decide⟩, by decide, by decide⟩ (sem_X6_skipBlanks (hrI (i + 1)) (by omega) ?_)
          refine V_aload dX6_read_49 rfl ?_
          refine V_invV (As := []) mv_X6_here lk_X6_27 dX6_read_50 (c := 6) (by decide) rfl rfl hr.1 rfl rfl (Nat.le_of_ble_eq_true rfl) ⟨⟨by decide, by decide⟩, by decide, by decide⟩ (sem_X6_here (hrI (i + 1)) (by rw [hJf2]; omega) ?_)
          rw [hJf2]
          refine V_const dX6_read_53 ?_
          refine V_icmp_ne dX6_read_54 (fun hc54 => ?_) (fun hc54 => ?_)
          · refine V_aload dX6_read_59 rfl ?_
            refine V_const dX6_read_60 ?_
            refine V_invV (As := [_]) mv_X6_pass lk_X6_35 dX6_read_62 (c := 6) (by decide) rfl rfl hr.1 rfl rfl (Nat.le_of_ble_eq_true rfl) ⟨⟨by decide, by decide⟩, by decide, by decide⟩ (sem_X6_pass (hrI (i + 1)) (by omega) (fun hp62 => ?_) (fun hp62 => ?_))
            · rw [hJf2] at hp62
              refine V_if_ne dX6_read_65 (fun hc65 => ?_) (fun hc65 => ?_)
              · exact absurd rfl hc65
              · refine V_aload dX6_read_68 rfl ?_
                refine V_getIs fk_X6_15 dX6_read_69 hr.1 up2s ?_
                exact V_iret dX6_read_72 rfl (by decide) (by decide) (by rw [if_neg hc54, if_neg hp62] at q; have h9 := q J2 (sk (J0 ab) n e) hJ2 hac2; dsimp only at h9; rw [hl2] at h9; exact h9)
            · rw [hJf2] at hp62
              refine V_if_ne dX6_read_65 (fun hc65 => ?_) (fun hc65 => ?_)
              · refine V_ii2 dX6_read_73 (by decide) (noL_r _) ?_
                refine V_goto dX6_read_76 ?_
                have hlt : sk (J0 ab) n e < n := byA_eq hp62 (by decide)
                exact V.sub (lsS (lsS (lsE (by rw [nI_1]) ls0))) (ih (i + 1) _ (acc ++ [cq]) J2 (by omega) hl2 (by omega) hac2 hJ2 (by rw [if_neg hc54, if_pos hp62] at q; exact q))
              · exact absurd hc65 (by decide)
          · refine V_const dX6_read_57 ?_
            exact V_iret dX6_read_58 rfl (by decide) (by decide) (by rw [if_pos hc54] at q; have h9 := q J2 (sk (J0 ab) n e) hJ2 hac2; dsimp only at h9; rw [hl2] at h9; exact h9)
        · exact absurd hc37 (by decide)
theorem sem_X6_read {l : Launch} {D : va_G} {A : Nat → Prop} {z : Nat} {t : TT} {I : MI} {R : MR} {J : MI} {B : MR} {o tp ab n co a0 a1 a2 a3 : Nat} {Φ : PP} (hr : RdOk t I R o tp ab n) (hco : CoSt t R co a0 a1 a2 a3) (hd : Dis4 a0 a1 a2 a3) (hab : ab ≠ a0 ∧ ab ≠ a1 ∧ ab ≠ a2 ∧ ab ≠ a3) (q : ∀ (J' : MI) (e : Nat), (∀ b, b ≠ a0 → b ≠ a1 → b ≠ a2 → b ≠ a3 → J' b = J b) → CoHas J' a0 a1 a2 a3 (rdA (J ab) n).2 → Φ (some (.int (oI (rdA (J ab) n).1))) z t (up2 (up2 I 4 co (nI (rdA (J ab) n).2.length)) 601 o (nI e)) R J' B) : Sem l D A 5 0 0 mX6_read [va_rf (some o), va_rf (some co)] z t I R J B Φ := by
  refine Sem.run [some (va_rf (some o)), some (va_rf (some co)), none] (by decide) rfl (ent_r (ent_r (ent_none ent_nil))) ?_
  have hn2 := hr.2.2.2.2.2.2
  have hrI : RdOk t (up2 I 4 co (nI 0)) R o tp ab n := ⟨hr.1, hr.2.1, hr.2.2.1, hr.2.2.2.1, hr.2.2.2.2.1, (up2n (by decide)).trans hr.2.2.2.2.2.1, hn2⟩
  refine V_aload dX6_read_0 rfl ?_
  refine V_const dX6_read_1 ?_
  refine V_putI fk_X6_15 (Or.inl rfl) rfl rfl dX6_read_2 hr.1 ?_
  refine V_aload dX6_read_5 rfl ?_
  refine V_const dX6_read_6 ?_
  refine V_putI fk_X6_19 (Or.inl rfl) rfl rfl dX6_read_7 hco.1 ?_
  rw [up2_comm _ _ _ _ _ (by decide)]
  refine V_aload dX6_read_10 rfl ?_
  refine V_invV (As := []) mv_X6_skipBlanks lk_X6_24 dX6_read_11 (c := 6) (by decide) rfl rfl hr.1 rfl rfl (Nat.le_of_ble_eq_true rfl) ⟨⟨by decide, by decide⟩, by decide, by decide⟩ (sem_X6_skipBlanks (a := 0) hrI (by omega) ?_)
  refine V_aload dX6_read_14 rfl ?_
  refine V_invV (As := []) mv_X6_here lk_X6_27 dX6_read_15 (c := 6) (by decide) rfl rfl hr.1 rfl rfl (Nat.le_of_ble_eq_true rfl) ⟨⟨by decide, by decide⟩, by decide, by decide⟩ (sem_X6_here hrI (by have := sk_n (f := J ab) (Nat.zero_le n); omega) ?_)
  refine V_const dX6_read_18 ?_
  refine V_icmp_ne dX6_read_19 (fun hc19 => ?_) (fun hc19 => ?_)
  · refine V_const dX6_read_24 ?_
    refine V_is2 dX6_read_25 (by decide) (noL_r _) ?_
    exact lp_X6_read hr hco hd hab 34 0 (sk (J ab) n 0) [] J rfl rfl (sk_n (Nat.zero_le n)) (fun j c h => by simp at h) (fun b _ _ _ _ => rfl) (by unfold rdA at q; rw [if_neg hc19] at q; exact q)
  · have hn1 : byA (J ab) n (sk (J ab) n 0) = -1 := hc19
    refine V_const dX6_read_22 ?_
    exact V_iret dX6_read_23 rfl (by decide) (by decide) (by unfold rdA at q; rw [if_pos hn1] at q; exact q J _ (fun b _ _ _ _ => rfl) (fun j c h => by simp at h))
theorem sem_X11_fault {l : Launch} {D : va_G} {A : Nat → Prop} {z : Nat} {t : TT} {I : MI} {R : MR} {J : MI} {B : MR} {x n co a0 a1 a2 a3 : Nat} {Φ : PP} (hX : XSt x t I R B) (hn : I 1001 (x + 129) = nI n) (hn2 : n ≤ 200) (hsp : R 1109 x = some co) (hco : CoSt t R co a0 a1 a2 a3) (hd : Dis4 a0 a1 a2 a3) (hab : x + 130 ≠ a0 ∧ x + 130 ≠ a1 ∧ x + 130 ≠ a2 ∧ x + 130 ≠ a3) (q : ∀ (J' : MI) (e : Nat), (∀ b, b ≠ a0 → b ≠ a1 → b ≠ a2 → b ≠ a3 → J' b = J b) → CoHas J' a0 a1 a2 a3 (rdA (J (x + 130)) n).2 → Φ (some (.int (oI (rdA (J (x + 130)) n).1))) z t (up2 (up2 I 4 co (nI (rdA (J (x + 130)) n).2.length)) 601 (x + 131) (nI e)) R J' B) : Sem l D A 6 0 0 mX11_fault [va_rf (some x)] z t I R J B Φ := by
  refine Sem.run [some (va_rf (some x))] (by decide) rfl (ent_r ent_nil) ?_
  refine V_aload dX11_fault_0 rfl ?_
  refine V_getRs fk_X11_63 dX11_fault_1 hX.hx hX.rd.1 ?_
  refine V_aload dX11_fault_4 rfl ?_
  refine V_getRs fk_X11_74 dX11_fault_5 hX.hx hsp ?_
  refine V_invV (As := [_]) mv_X6_read lk_X11_230 dX11_fault_8 (c := 6) (by decide) rfl rfl hX.rd.2.1 rfl rfl (Nat.le_of_ble_eq_true rfl) ⟨⟨by decide, by decide⟩, by decide, by decide⟩ (sem_X6_read ⟨hX.rd.2.1, hX.rd.2.2, hX.tp.2.1, hX.tp.2.2.1, hX.tp.2.2.2, hn, hn2⟩ hco hd hab (fun J' e g1 g2 => ?_))
  exact V_iret dX11_fault_11 rfl (by decide) (by decide) (q J' e g1 g2)
theorem sem_X0_init {l : Launch} {D : va_G} {A : Nat → Prop} {z : Nat} {t : TT} {I : MI} {R : MR} {J : MI} {B : MR} {o : Nat} {Φ : PP} (ho : (t o).1 = 1) (hA : ∀ q, z ≤ q → A q) (q : Φ none (z + 4) (va_up (va_up (va_up (va_up t z (20, 34)) (z + 1) (20, 34)) (z + 2) (20, 34)) (z + 3) (20, 34)) I (up2 (up2 (up2 (up2 R 0 o (some z)) 1 o (some (z + 1))) 2 o (some (z + 2))) 3 o (some (z + 3))) (va_up (va_up (va_up (va_up J z (fun _ => 0)) (z + 1) (fun _ => 0)) (z + 2) (fun _ => 0)) (z + 3) (fun _ => 0)) B) : Sem l D A 1 4 136 mX0_init [va_rf (some o)] z t I R J B Φ := by
  refine Sem.run [some (va_rf (some o))] (by decide) rfl (ent_r ent_nil) ?_
  refine V.lt (fun hlt => ?_)
  have hoz : o < z := hlt o (by rw [ho]; decide)
  refine V_aload dX0_init_0 rfl ?_
  refine V_objInit dX0_init_1 lk_X0_3 w_oi1 w_oi2 (by decide) (by decide) (Nat.le_of_ble_eq_true rfl) ?_
  refine V_aload dX0_init_4 rfl ?_
  refine V_const dX0_init_5 ?_
  refine V_newa w_arr (N := 34) rfl (by decide) (hA _ (by omega)) (by decide) (by decide) dX0_init_7 ?_
  refine V_putR fk_X0_9 (Or.inr ⟨rfl, rfl, rfl⟩) (fun v => by cases v <;> rfl) (fun v => by cases v <;> rfl) dX0_init_9 (by rw [va_up_ne _ _ (by omega)]; exact ho) ?_
  refine V_aload dX0_init_12 rfl ?_
  refine V_const dX0_init_13 ?_
  refine V_newa w_arr (N := 34) rfl (by decide) (hA _ (by omega)) (by decide) (by decide) dX0_init_15 ?_
  refine V_putR fk_X0_15 (Or.inr ⟨rfl, rfl, rfl⟩) (fun v => by cases v <;> rfl) (fun v => by cases v <;> rfl) dX0_init_17 (by rw [va_up_ne _ _ (by omega), va_up_ne _ _ (by omega)]; exact ho) ?_
  refine V_aload dX0_init_20 rfl ?_
  refine V_const dX0_init_21 ?_
  refine V_newa w_arr (N := 34) rfl (by decide) (hA _ (by omega)) (by decide) (by decide) dX0_init_23 ?_
  refine V_putR fk_X0_18 (Or.inr ⟨rfl, rfl, rfl⟩) (fun v => by cases v <;> rfl) (fun v => by cases v <;> rfl) dX0_init_25 (by rw [va_up_ne _ _ (by omega), va_up_ne _ _ (by omega), va_up_ne _ _ (by omega)]; exact ho) ?_
  refine V_aload dX0_init_28 rfl ?_
  refine V_const dX0_init_29 ?_
  refine V_newa w_arr (N := 34) rfl (by decide) (hA _ (by omega)) (by decide) (by decide) dX0_init_31 ?_
  refine V_putR fk_X0_21 (Or.inr ⟨rfl, rfl, rfl⟩) (fun v => by cases v <;> rfl) (fun v => by cases v <;> rfl) dX0_init_33 (by rw [va_up_ne _ _ (by omega), va_up_ne _ _ (by omega), va_up_ne _ _ (by omega), va_up_ne _ _ (by omega)]; exact ho) ?_
  exact V_vret dX0_init_36 rfl (by decide) (by decide) q
