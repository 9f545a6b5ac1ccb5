-- THE CLASS'S READER: clauses, contracts
theorem up2_comm {α : Type} (M : Nat → Nat → α) {f g : Nat} (a b : Nat) (v w : α) (h : f ≠ g) : up2 (up2 M f a v) g b w = up2 (up2 M g b w) f a v := by
  funext i j
  by_cases e1 : i = f
  · subst e1
    rw [up2_ne _ _ _ h, up2_self, up2_self, up2_ne _ _ _ h]
  · by_cases e2 : i = g
    · subst e2
      rw [up2_self, up2_ne _ _ _ e1, up2_ne _ _ _ e1, up2_self]
    · rw [up2_ne _ _ _ e2, up2_ne _ _ _ e1, up2_ne _ _ _ e1, up2_ne _ _ _ e2]
theorem byA_lt {f : Nat → Int32} {n a : Nat} (h : ¬ byA f n a = -1) : a < n := by
  rcases Nat.lt_or_ge a n with q | q
  · exact q
  · exact absurd (if_neg (by omega)) h
theorem byA_eq {f : Nat → Int32} {n a : Nat} {c : Int32} (h : byA f n a = c) (hc : ¬ c = -1) : a < n := byA_lt (by rw [h]; exact hc)
theorem sk_le {f : Nat → Int32} {n : Nat} : ∀ (k a : Nat), n ≤ a + k → a ≤ n → sk f n a ≤ n
  | 0, a, h1, h2 => by rw [sk_f (by omega)]; exact h2
  | k + 1, a, h1, h2 => by
    by_cases h : a < n ∧ f a = 32
    · rw [sk_t h]; exact sk_le k (a + 1) (by omega) (by omega)
    · rw [sk_f h]; exact h2
theorem sk_n {f : Nat → Int32} {n a : Nat} (h : a ≤ n) : sk f n a ≤ n := sk_le n a (by omega) h
theorem dgA_n {f : Nat → Int32} {n : Nat} : ∀ (k a : Nat) (v : Int32), a ≤ n → (dgA f n k a v).1 ≤ n
  | 0, _, _, h => h
  | k + 1, a, v, h => by
    rw [dgA]
    split
    · rename_i h2
      have : a < n := byA_lt (fun e => by have h3 := h2.1; rw [e] at h3; exact absurd h3 (by decide))
      exact dgA_n k (a + 1) _ this
    · exact h
abbrev isL (c : Int32) : Prop := c = 98 ∨ c = 107 ∨ c = 110 ∨ c = 103
abbrev isS (c : Int32) : Prop := c = 61 ∨ c = 60 ∨ c = 62
abbrev CC : Type := Int32 × Int32 × Int32 × Int32
def a6A (f : Nat → Int32) (n a5 : Nat) : Nat := if byA f n a5 = 45 then a5 + 1 else a5
def am6 (f : Nat → Int32) (n a5 : Nat) (w : Int32) : Int32 := if byA f n a5 = 45 then -w else w
def clD (f : Nat → Int32) (n : Nat) (l s v : Int32) (a5 : Nat) : Nat × Option CC := if (dgA f n 5 (a6A f n a5) 0).1 = a6A f n a5 then (a6A f n a5, none) else ((dgA f n 5 (a6A f n a5) 0).1, some (l, s, v, am6 f n a5 (dgA f n 5 (a6A f n a5) 0).2))
def clC (f : Nat → Int32) (n : Nat) (l s : Int32) (a : Nat) : Nat × Option CC := if (dgA f n 5 (sk f n a) 0).1 = sk f n a then (sk f n a, none) else if byA f n (sk f n (dgA f n 5 (sk f n a) 0).1) = 58 then clD f n l s (dgA f n 5 (sk f n a) 0).2 (sk f n (sk f n (dgA f n 5 (sk f n a) 0).1 + 1)) else (sk f n (dgA f n 5 (sk f n a) 0).1, none)
def clB (f : Nat → Int32) (n : Nat) (l : Int32) (a : Nat) : Nat × Option CC := if isS (byA f n (sk f n a)) then clC f n l (byA f n (sk f n a)) (sk f n a + 1) else (sk f n a, none)
def clA (f : Nat → Int32) (n : Nat) (a : Nat) : Nat × Option CC := if isL (byA f n (sk f n a)) then clB f n (byA f n (sk f n a)) (sk f n a + 1) else (sk f n a, none)
/-- what holds behind a clause was read, or wasn't -/
def clQ (Φ : PP) (z : Nat) (t : TT) (I : MI) (R : MR) (J : MI) (B : MR) (o co a0 a1 a2 a3 c : Nat) (r : Nat × Option CC) : Prop := match r with
  | (e, none) => Φ (some (.int 0)) z t (up2 I 601 o (nI e)) R J B
  | (e, some q) => Φ (some (.int 1)) z t (up2 (up2 I 4 co (nI (c + 1))) 601 o (nI e)) R (up2 (up2 (up2 (up2 J a0 c q.1) a1 c q.2.1) a2 c q.2.2.1) a3 c q.2.2.2) B
theorem tl_X6_cl4 {l : Launch} {D : va_G} {A : Nat → Prop} {z : Nat} {t : TT} {I : MI} {R : MR} {J : MI} {B : MR} {o tp ab n a co a0 a1 a2 a3 c : Nat} {le sg nu : Int32} {Φ : PP} (hr : RdOk t I R o tp ab n) (hco : CoSt t R co a0 a1 a2 a3) (hc : I 4 co = nI c) (hc34 : c < 34) (ha : a ≤ n) (q : clQ Φ z t I R J B o co a0 a1 a2 a3 c (clD (J ab) n le sg nu a)) : V l D A (rmm 4 0 0) mX6_readClause (KS D A 0 0 Φ) 0 0 z t (up2 I 601 o (nI a)) R J B 122 [some (va_rf (some o)), some (va_rf (some co)), some (.int le), some (.int sg), some (.int nu), none, none] [] := by
  have hn2 := hr.2.2.2.2.2.2
  refine V_aload dX6_readClause_122 rfl ?_
  refine V_const dX6_readClause_123 ?_
  refine V_invV (As := [_]) mv_X6_pass lk_X6_35 dX6_readClause_125 (c := 6) (by decide) rfl rfl hr.1 rfl rfl (Nat.le_of_ble_eq_true rfl) ⟨⟨by decide, by decide⟩, by decide, by decide⟩ (sem_X6_pass hr (by omega) (fun hp125 => ?_) (fun hp125 => ?_))
  · refine V_is5 dX6_readClause_128 (by decide) (noL_i _) ?_
    refine V_aload dX6_readClause_130 rfl ?_
    unfold clD a6A am6 at q
    rw [if_neg hp125, if_neg hp125] at q
    refine V_invV (As := []) mv_X6_readDigits lk_X6_39 dX6_readClause_131 (c := 6) (by decide) rfl rfl hr.1 rfl rfl (Nat.le_of_ble_eq_true rfl) ⟨⟨by decide, by decide⟩, by decide, by decide⟩ (sem_X6_readDigits hr (by omega) ?_)
    refine V_is6 dX6_readClause_134 (by decide) (noL_i _) ?_
    refine V_iload dX6_readClause_136 rfl ?_
    refine V_const dX6_readClause_138 ?_
    refine V_icmp_ne dX6_readClause_139 (fun hc139 => ?_) (fun hc139 => ?_)
    · have hne : ¬ (dgA (J ab) n 5 a 0).1 = a := fun e => hc139 (if_pos e)
      rw [if_neg hne] at q ⊢
      refine V_aload dX6_readClause_144 rfl ?_
      refine V_iload dX6_readClause_145 rfl ?_
      refine V_iload dX6_readClause_146 rfl ?_
      refine V_iload dX6_readClause_147 rfl ?_
      refine V_iload dX6_readClause_149 rfl ?_
      refine V_if_eq dX6_readClause_151 (fun hc151 => ?_) (fun hc151 => ?_)
      · refine V_iload dX6_readClause_160 rfl ?_
        refine V_invV (As := [_, _, _, _]) mv_X0_add lk_X6_42 dX6_readClause_162 (c := 0) (by decide) rfl rfl hco.1 rfl rfl (Nat.le_of_ble_eq_true rfl) ⟨⟨by decide, by decide⟩, by decide, by decide⟩ (sem_X0_add hco ((up2n (by decide)).trans hc) hc34 ?_)
        refine V_const dX6_readClause_165 ?_
        exact V_zret dX6_readClause_166 rfl (by first | exact Or.inl rfl | exact Or.inr rfl) (by decide) (by decide) (by rw [up2_comm _ _ _ _ _ (by decide)]; exact q)
      · exact absurd rfl hc151
    · have heq : (dgA (J ab) n 5 a 0).1 = a := by
        by_cases e : (dgA (J ab) n 5 a 0).1 = a
        · exact e
        · rw [if_neg e] at hc139; exact absurd hc139 dg5_ne
      rw [if_pos heq] at q
      rw [heq]
      refine V_const dX6_readClause_142 ?_
      exact V_zret dX6_readClause_143 rfl (by first | exact Or.inl rfl | exact Or.inr rfl) (by decide) (by decide) q
  · refine V_is5 dX6_readClause_128 (by decide) (noL_i _) ?_
    refine V_aload dX6_readClause_130 rfl ?_
    have ha2 : a < n := byA_eq hp125 (by decide)
    unfold clD a6A am6 at q
    rw [if_pos hp125, if_pos hp125] at q
    refine V_invV (As := []) mv_X6_readDigits lk_X6_39 dX6_readClause_131 (c := 6) (by decide) rfl rfl hr.1 rfl rfl (Nat.le_of_ble_eq_true rfl) ⟨⟨by decide, by decide⟩, by decide, by decide⟩ (sem_X6_readDigits hr (by omega) ?_)
    refine V_is6 dX6_readClause_134 (by decide) (noL_i _) ?_
    refine V_iload dX6_readClause_136 rfl ?_
    refine V_const dX6_readClause_138 ?_
    refine V_icmp_ne dX6_readClause_139 (fun hc139 => ?_) (fun hc139 => ?_)
    · have hne : ¬ (dgA (J ab) n 5 (a + 1) 0).1 = (a + 1) := fun e => hc139 (if_pos e)
      rw [if_neg hne] at q ⊢
      refine V_aload dX6_readClause_144 rfl ?_
      refine V_iload dX6_readClause_145 rfl ?_
      refine V_iload dX6_readClause_146 rfl ?_
      refine V_iload dX6_readClause_147 rfl ?_
      refine V_iload dX6_readClause_149 rfl ?_
      refine V_if_eq dX6_readClause_151 (fun hc151 => ?_) (fun hc151 => ?_)
      · exact absurd hc151 (by decide)
      · refine V_iload dX6_readClause_154 rfl ?_
        refine V_ineg dX6_readClause_156 ?_
        refine V_goto dX6_readClause_157 ?_
        refine V_invV (As := [_, _, _, _]) mv_X0_add lk_X6_42 dX6_readClause_162 (c := 0) (by decide) rfl rfl hco.1 rfl rfl (Nat.le_of_ble_eq_true rfl) ⟨⟨by decide, by decide⟩, by decide, by decide⟩ (sem_X0_add hco ((up2n (by decide)).trans hc) hc34 ?_)
        refine V_const dX6_readClause_165 ?_
        exact V_zret dX6_readClause_166 rfl (by first | exact Or.inl rfl | exact Or.inr rfl) (by decide) (by decide) (by rw [up2_comm _ _ _ _ _ (by decide)]; exact q)
    · have heq : (dgA (J ab) n 5 (a + 1) 0).1 = (a + 1) := by
        by_cases e : (dgA (J ab) n 5 (a + 1) 0).1 = (a + 1)
        · exact e
        · rw [if_neg e] at hc139; exact absurd hc139 dg5_ne
      rw [if_pos heq] at q
      rw [heq]
      refine V_const dX6_readClause_142 ?_
      exact V_zret dX6_readClause_143 rfl (by first | exact Or.inl rfl | exact Or.inr rfl) (by decide) (by decide) q
theorem tl_X6_cl3 {l : Launch} {D : va_G} {A : Nat → Prop} {z : Nat} {t : TT} {I : MI} {R : MR} {J : MI} {B : MR} {o tp ab n a co a0 a1 a2 a3 c : Nat} {le sg : Int32} {Φ : PP} (hr : RdOk t I R o tp ab n) (hco : CoSt t R co a0 a1 a2 a3) (hc : I 4 co = nI c) (hc34 : c < 34) (ha : a ≤ n) (q : clQ Φ z t I R J B o co a0 a1 a2 a3 c (clC (J ab) n le sg a)) : V l D A (rmm 4 0 0) mX6_readClause (KS D A 0 0 Φ) 0 0 z t (up2 I 601 o (nI a)) R J B 85 [some (va_rf (some o)), some (va_rf (some co)), some (.int le), some (.int sg), none, none, none] [] := by
  have hn2 := hr.2.2.2.2.2.2
  have h3 : sk (J ab) n a ≤ n := sk_n ha
  have hd3 : (dgA (J ab) n 5 (sk (J ab) n a) 0).1 ≤ n := dgA_n _ _ _ h3
  have hs4 : sk (J ab) n (dgA (J ab) n 5 (sk (J ab) n a) 0).1 ≤ n := sk_n hd3
  refine V_aload dX6_readClause_85 rfl ?_
  refine V_invV (As := []) mv_X6_skipBlanks lk_X6_24 dX6_readClause_86 (c := 6) (by decide) rfl rfl hr.1 rfl rfl (Nat.le_of_ble_eq_true rfl) ⟨⟨by decide, by decide⟩, by decide, by decide⟩ (sem_X6_skipBlanks hr (by omega) ?_)
  refine V_aload dX6_readClause_89 rfl ?_
  refine V_invV (As := []) mv_X6_readDigits lk_X6_39 dX6_readClause_90 (c := 6) (by decide) rfl rfl hr.1 rfl rfl (Nat.le_of_ble_eq_true rfl) ⟨⟨by decide, by decide⟩, by decide, by decide⟩ (sem_X6_readDigits hr (by omega) ?_)
  refine V_is4 dX6_readClause_93 (by decide) (noL_i _) ?_
  refine V_iload dX6_readClause_95 rfl ?_
  refine V_const dX6_readClause_97 ?_
  refine V_icmp_ne dX6_readClause_98 (fun hc98 => ?_) (fun hc98 => ?_)
  · have hne : ¬ (dgA (J ab) n 5 (sk (J ab) n a) 0).1 = sk (J ab) n a := fun e => hc98 (if_pos e)
    unfold clC at q
    rw [if_neg hne] at q ⊢
    refine V_aload dX6_readClause_103 rfl ?_
    refine V_invV (As := []) mv_X6_skipBlanks lk_X6_24 dX6_readClause_104 (c := 6) (by decide) rfl rfl hr.1 rfl rfl (Nat.le_of_ble_eq_true rfl) ⟨⟨by decide, by decide⟩, by decide, by decide⟩ (sem_X6_skipBlanks hr (by omega) ?_)
    refine V_aload dX6_readClause_107 rfl ?_
    refine V_const dX6_readClause_108 ?_
    refine V_invV (As := [_]) mv_X6_pass lk_X6_35 dX6_readClause_110 (c := 6) (by decide) rfl rfl hr.1 rfl rfl (Nat.le_of_ble_eq_true rfl) ⟨⟨by decide, by decide⟩, by decide, by decide⟩ (sem_X6_pass hr (by omega) (fun hp110 => ?_) (fun hp110 => ?_))
    · rw [if_neg hp110] at q
      refine V_if_ne dX6_readClause_113 (fun hc113 => ?_) (fun hc113 => ?_)
      · exact absurd rfl hc113
      · refine V_const dX6_readClause_116 ?_
        exact V_zret dX6_readClause_117 rfl (by first | exact Or.inl rfl | exact Or.inr rfl) (by decide) (by decide) q
    · have h4 : sk (J ab) n (dgA (J ab) n 5 (sk (J ab) n a) 0).1 < n := byA_eq hp110 (by decide)
      rw [if_pos hp110] at q
      refine V_if_ne dX6_readClause_113 (fun hc113 => ?_) (fun hc113 => ?_)
      · refine V_aload dX6_readClause_118 rfl ?_
        refine V_invV (As := []) mv_X6_skipBlanks lk_X6_24 dX6_readClause_119 (c := 6) (by decide) rfl rfl hr.1 rfl rfl (Nat.le_of_ble_eq_true rfl) ⟨⟨by decide, by decide⟩, by decide, by decide⟩ (sem_X6_skipBlanks hr (by omega) ?_)
        exact tl_X6_cl4 hr hco hc hc34 (sk_n (by omega)) q
      · exact absurd hc113 (by decide)
  · have heq : (dgA (J ab) n 5 (sk (J ab) n a) 0).1 = sk (J ab) n a := by
      by_cases e : (dgA (J ab) n 5 (sk (J ab) n a) 0).1 = sk (J ab) n a
      · exact e
      · rw [if_neg e] at hc98; exact absurd hc98 dg5_ne
    unfold clC at q
    rw [if_pos heq] at q
    rw [heq]
    refine V_const dX6_readClause_101 ?_
    exact V_zret dX6_readClause_102 rfl (by first | exact Or.inl rfl | exact Or.inr rfl) (by decide) (by decide) q
theorem tl_X6_cl2 {l : Launch} {D : va_G} {A : Nat → Prop} {z : Nat} {t : TT} {I : MI} {R : MR} {J : MI} {B : MR} {o tp ab n a co a0 a1 a2 a3 c : Nat} {le : Int32} {Φ : PP} (hr : RdOk t I R o tp ab n) (hco : CoSt t R co a0 a1 a2 a3) (hc : I 4 co = nI c) (hc34 : c < 34) (ha : a ≤ n) (q : clQ Φ z t I R J B o co a0 a1 a2 a3 c (clB (J ab) n le a)) : V l D A (rmm 4 0 0) mX6_readClause (KS D A 0 0 Φ) 0 0 z t (up2 I 601 o (nI a)) R J B 47 [some (va_rf (some o)), some (va_rf (some co)), some (.int le), none, none, none, none] [] := by
  have hn2 := hr.2.2.2.2.2.2
  have h3 : sk (J ab) n a ≤ n := sk_n ha
  have go : isS (byA (J ab) n (sk (J ab) n a)) → V l D A (rmm 4 0 0) mX6_readClause (KS D A 0 0 Φ) 0 0 z t (up2 I 601 o (nI (sk (J ab) n a + 1))) R J B 85 [some (va_rf (some o)), some (va_rf (some co)), some (.int le), some (.int (byA (J ab) n (sk (J ab) n a))), none, none, none] [] := fun h => by
    have hlt : sk (J ab) n a < n := byA_lt (fun e => by rw [e] at h; exact absurd h (by decide))
    unfold clB at q
    rw [if_pos h] at q
    exact tl_X6_cl3 hr hco hc hc34 (by omega) q
  refine V_aload dX6_readClause_47 rfl ?_
  refine V_invV (As := []) mv_X6_skipBlanks lk_X6_24 dX6_readClause_48 (c := 6) (by decide) rfl rfl hr.1 rfl rfl (Nat.le_of_ble_eq_true rfl) ⟨⟨by decide, by decide⟩, by decide, by decide⟩ (sem_X6_skipBlanks hr (by omega) ?_)
  refine V_aload dX6_readClause_51 rfl ?_
  refine V_invV (As := []) mv_X6_here lk_X6_27 dX6_readClause_52 (c := 6) (by decide) rfl rfl hr.1 rfl rfl (Nat.le_of_ble_eq_true rfl) ⟨⟨by decide, by decide⟩, by decide, by decide⟩ (sem_X6_here hr (by omega) ?_)
  refine V_is3 dX6_readClause_55 (by decide) (noL_i _) ?_
  refine V_aload dX6_readClause_56 rfl ?_
  refine V_const dX6_readClause_57 ?_
  refine V_invV (As := [_]) mv_X6_pass lk_X6_35 dX6_readClause_59 (c := 6) (by decide) rfl rfl hr.1 rfl rfl (Nat.le_of_ble_eq_true rfl) ⟨⟨by decide, by decide⟩, by decide, by decide⟩ (sem_X6_pass hr (by omega) (fun hp59 => ?_) (fun hp59 => ?_))
  · refine V_if_ne dX6_readClause_62 (fun hc62 => ?_) (fun hc62 => ?_)
    · exact absurd rfl hc62
    · refine V_aload dX6_readClause_65 rfl ?_
      refine V_const dX6_readClause_66 ?_
      refine V_invV (As := [_]) mv_X6_pass lk_X6_35 dX6_readClause_68 (c := 6) (by decide) rfl rfl hr.1 rfl rfl (Nat.le_of_ble_eq_true rfl) ⟨⟨by decide, by decide⟩, by decide, by decide⟩ (sem_X6_pass hr (by omega) (fun hp68 => ?_) (fun hp68 => ?_))
      · refine V_if_ne dX6_readClause_71 (fun hc71 => ?_) (fun hc71 => ?_)
        · exact absurd rfl hc71
        · refine V_aload dX6_readClause_74 rfl ?_
          refine V_const dX6_readClause_75 ?_
          refine V_invV (As := [_]) mv_X6_pass lk_X6_35 dX6_readClause_77 (c := 6) (by decide) rfl rfl hr.1 rfl rfl (Nat.le_of_ble_eq_true rfl) ⟨⟨by decide, by decide⟩, by decide, by decide⟩ (sem_X6_pass hr (by omega) (fun hp77 => ?_) (fun hp77 => ?_))
          · refine V_if_ne dX6_readClause_80 (fun hc80 => ?_) (fun hc80 => ?_)
            · exact absurd rfl hc80
            · refine V_const dX6_readClause_83 ?_
              exact V_zret dX6_readClause_84 rfl (by first | exact Or.inl rfl | exact Or.inr rfl) (by decide) (by decide) (by unfold clB at q; rw [if_neg (fun h => h.elim hp59 (fun h => h.elim hp68 hp77))] at q; exact q)
          · refine V_if_ne dX6_readClause_80 (fun hc80 => ?_) (fun hc80 => ?_)
            · exact go (Or.inr (Or.inr hp77))
            · exact absurd hc80 (by decide)
      · refine V_if_ne dX6_readClause_71 (fun hc71 => ?_) (fun hc71 => ?_)
        · exact go (Or.inr (Or.inl hp68))
        · exact absurd hc71 (by decide)
  · refine V_if_ne dX6_readClause_62 (fun hc62 => ?_) (fun hc62 => ?_)
    · exact go (Or.inl hp59)
    · exact absurd hc62 (by decide)
theorem tl_X6_cl1 {l : Launch} {D : va_G} {A : Nat → Prop} {z : Nat} {t : TT} {I : MI} {R : MR} {J : MI} {B : MR} {o tp ab n a co a0 a1 a2 a3 c : Nat}  {Φ : PP} (hr : RdOk t I R o tp ab n) (hco : CoSt t R co a0 a1 a2 a3) (hc : I 4 co = nI c) (hc34 : c < 34) (ha : a ≤ n) (q : clQ Φ z t I R J B o co a0 a1 a2 a3 c (clA (J ab) n a)) : V l D A (rmm 4 0 0) mX6_readClause (KS D A 0 0 Φ) 0 0 z t (up2 I 601 o (nI a)) R J B 0 [some (va_rf (some o)), some (va_rf (some co)), none, none, none, none, none] [] := by
  have hn2 := hr.2.2.2.2.2.2
  have h3 : sk (J ab) n a ≤ n := sk_n ha
  have go : isL (byA (J ab) n (sk (J ab) n a)) → V l D A (rmm 4 0 0) mX6_readClause (KS D A 0 0 Φ) 0 0 z t (up2 I 601 o (nI (sk (J ab) n a + 1))) R J B 47 [some (va_rf (some o)), some (va_rf (some co)), some (.int (byA (J ab) n (sk (J ab) n a))), none, none, none, none] [] := fun h => by
    have hlt : sk (J ab) n a < n := byA_lt (fun e => by rw [e] at h; exact absurd h (by decide))
    unfold clA at q
    rw [if_pos h] at q
    exact tl_X6_cl2 hr hco hc hc34 (by omega) q
  refine V_aload dX6_readClause_0 rfl ?_
  refine V_invV (As := []) mv_X6_skipBlanks lk_X6_24 dX6_readClause_1 (c := 6) (by decide) rfl rfl hr.1 rfl rfl (Nat.le_of_ble_eq_true rfl) ⟨⟨by decide, by decide⟩, by decide, by decide⟩ (sem_X6_skipBlanks hr (by omega) ?_)
  refine V_aload dX6_readClause_4 rfl ?_
  refine V_invV (As := []) mv_X6_here lk_X6_27 dX6_readClause_5 (c := 6) (by decide) rfl rfl hr.1 rfl rfl (Nat.le_of_ble_eq_true rfl) ⟨⟨by decide, by decide⟩, by decide, by decide⟩ (sem_X6_here hr (by omega) ?_)
  refine V_is2 dX6_readClause_8 (by decide) (noL_r _) ?_
  refine V_aload dX6_readClause_9 rfl ?_
  refine V_const dX6_readClause_10 ?_
  refine V_invV (As := [_]) mv_X6_pass lk_X6_35 dX6_readClause_12 (c := 6) (by decide) rfl rfl hr.1 rfl rfl (Nat.le_of_ble_eq_true rfl) ⟨⟨by decide, by decide⟩, by decide, by decide⟩ (sem_X6_pass hr (by omega) (fun hp12 => ?_) (fun hp12 => ?_))
  · refine V_if_ne dX6_readClause_15 (fun hc15 => ?_) (fun hc15 => ?_)
    · exact absurd rfl hc15
    · refine V_aload dX6_readClause_18 rfl ?_
      refine V_const dX6_readClause_19 ?_
      refine V_invV (As := [_]) mv_X6_pass lk_X6_35 dX6_readClause_21 (c := 6) (by decide) rfl rfl hr.1 rfl rfl (Nat.le_of_ble_eq_true rfl) ⟨⟨by decide, by decide⟩, by decide, by decide⟩ (sem_X6_pass hr (by omega) (fun hp21 => ?_) (fun hp21 => ?_))
      · refine V_if_ne dX6_readClause_24 (fun hc24 => ?_) (fun hc24 => ?_)
        · exact absurd rfl hc24
        · refine V_aload dX6_readClause_27 rfl ?_
          refine V_const dX6_readClause_28 ?_
          refine V_invV (As := [_]) mv_X6_pass lk_X6_35 dX6_readClause_30 (c := 6) (by decide) rfl rfl hr.1 rfl rfl (Nat.le_of_ble_eq_true rfl) ⟨⟨by decide, by decide⟩, by decide, by decide⟩ (sem_X6_pass hr (by omega) (fun hp30 => ?_) (fun hp30 => ?_))
          · refine V_if_ne dX6_readClause_33 (fun hc33 => ?_) (fun hc33 => ?_)
            · exact absurd rfl hc33
            · refine V_aload dX6_readClause_36 rfl ?_
              refine V_const dX6_readClause_37 ?_
              refine V_invV (As := [_]) mv_X6_pass lk_X6_35 dX6_readClause_39 (c := 6) (by decide) rfl rfl hr.1 rfl rfl (Nat.le_of_ble_eq_true rfl) ⟨⟨by decide, by decide⟩, by decide, by decide⟩ (sem_X6_pass hr (by omega) (fun hp39 => ?_) (fun hp39 => ?_))
              · refine V_if_ne dX6_readClause_42 (fun hc42 => ?_) (fun hc42 => ?_)
                · exact absurd rfl hc42
                · refine V_const dX6_readClause_45 ?_
                  exact V_zret dX6_readClause_46 rfl (by first | exact Or.inl rfl | exact Or.inr rfl) (by decide) (by decide) (by unfold clA at q; rw [if_neg (fun h => h.elim hp12 (fun h => h.elim hp21 (fun h => h.elim hp30 hp39)))] at q; exact q)
              · refine V_if_ne dX6_readClause_42 (fun hc42 => ?_) (fun hc42 => ?_)
                · exact go (Or.inr (Or.inr (Or.inr hp39)))
                · exact absurd hc42 (by decide)
          · refine V_if_ne dX6_readClause_33 (fun hc33 => ?_) (fun hc33 => ?_)
            · exact go (Or.inr (Or.inr (Or.inl hp30)))
            · exact absurd hc33 (by decide)
      · refine V_if_ne dX6_readClause_24 (fun hc24 => ?_) (fun hc24 => ?_)
        · exact go (Or.inr (Or.inl hp21))
        · exact absurd hc24 (by decide)
  · refine V_if_ne dX6_readClause_15 (fun hc15 => ?_) (fun hc15 => ?_)
    · exact go (Or.inl hp12)
    · exact absurd hc15 (by decide)
theorem sem_X6_readClause {l : Launch} {D : va_G} {A : Nat → Prop} {z : Nat} {t : TT} {I : MI} {R : MR} {J : MI} {B : MR} {o tp ab n a co a0 a1 a2 a3 c : Nat} {Φ : PP} (hr : RdOk t I R o tp ab n) (hco : CoSt t R co a0 a1 a2 a3) (hc : I 4 co = nI c) (hc34 : c < 34) (ha : a ≤ n) (q : clQ Φ z t I R J B o co a0 a1 a2 a3 c (clA (J ab) n a)) : Sem l D A 4 0 0 mX6_readClause [va_rf (some o), va_rf (some co)] z t (up2 I 601 o (nI a)) R J B Φ := by
  refine Sem.run [some (va_rf (some o)), some (va_rf (some co)), none, none, none, none, none] (by decide) rfl (ent_r (ent_r (ent_none (ent_none (ent_none (ent_none (ent_none ent_nil))))))) ?_
  exact tl_X6_cl1 hr hco hc hc34 ha q
