-- THE REFERENCE's balance; the tape, on both sides
def laM (J : MI) (m : Nat) (i : Int32) (s t : Nat) (b : Bool) : Bool := b && !(decide (J (m + 33) t = i) && decide (J (m + 34) t = J (m + 34) s))
def blM (J : MI) (m N : Nat) (i : Int32) (s : Nat) (a : Int32) : Int32 := a + (if itr (laM J m i s) (s + 1) (N - (s + 1)) (decide (J (m + 33) s = i)) = true then J (m + 35) s else 0)
theorem lp_X12_bal2 {l : Launch} {D : va_G} {A : Nat → Prop} {z : Nat} {t : TT} {I : MI} {R : MR} {J : MI} {B : MR} {m N s : Nat} {p k x a : Int32} {Φ : PP} (hM : MSt m t R) (hN : I 1204 m = nI N) (hN2 : N ≤ 200) (hs : s < N) : ∀ (n i : Nat) (b : Bool), i + n = N → V l D A (rmm 2 0 0) mX12_balance (KS D A 0 0 Φ) 0 0 z t I R J B 117 [some (va_rf (some m)), some (.int p), some (.int k), some (.int x), some (.int a), some (.int (nI s)), some (.int (bI (itr (laM J m x s) i n b = true))), none] [] → V l D A (rmm 2 0 0) mX12_balance (KS D A 0 0 Φ) 0 0 z t I R J B 62 [some (va_rf (some m)), some (.int p), some (.int k), some (.int x), some (.int a), some (.int (nI s)), some (.int (bI (b = true))), some (.int (nI i))] [] := by
  intro n
  induction n with
  | zero =>
    intro i b hin q
    have hi : i = N := by omega
    subst hi
    refine V_iload dX12_balance_62 rfl ?_
    refine V_aload dX12_balance_64 rfl ?_
    refine V_getIs fk_X12_206 dX12_balance_65 hM.1 hN ?_
    refine V_icmp_ge dX12_balance_68 (fun hc68 => ?_) (fun hc68 => ?_)
    · exact V.sub (lsS (lsS (lsS (lsS (lsS (lsS (lsS (lsN ls0)))))))) q
    · exact absurd (Int32.le_refl _) hc68
  | succ n ih =>
    intro i b hin q
    refine V_iload dX12_balance_62 rfl ?_
    refine V_aload dX12_balance_64 rfl ?_
    refine V_getIs fk_X12_206 dX12_balance_65 hM.1 hN ?_
    refine V_icmp_ge dX12_balance_68 (fun hc68 => ?_) (fun hc68 => ?_)
    · exact absurd hc68 (nI_ge (by omega) (by omega))
    · refine V_iload dX12_balance_71 rfl ?_
      refine V_if_eq dX12_balance_73 (fun hc73 => ?_) (fun hc73 => ?_)
      · rw [bI_0] at hc73
        refine V_const dX12_balance_108 ?_
        refine V_is6 dX12_balance_109 (by decide) (noL_i _) ?_
        refine V_ii7 dX12_balance_111 (by decide) (noL_i _) ?_
        refine V_goto dX12_balance_114 ?_
        have hla : laM J m x s i b = false := by unfold laM; rw [show b = false by simpa using hc73]; rfl
        refine V.sub (lsS (lsS (lsS (lsS (lsS (lsS (lsE (by rw [hla]; rfl) (lsE (by rw [nI_1]) ls0)))))))) (ih (i + 1) (laM J m x s i b) (by omega) q)
      · rw [bI_n0] at hc73
        refine V_aload dX12_balance_76 rfl ?_
        refine V_getRs fk_X12_106 dX12_balance_77 hM.1 hM.a1240.1 ?_
        refine V_iload dX12_balance_80 rfl ?_
        refine V_iald dX12_balance_82 hM.a1240.2 rfl (by omega) (by decide) ?_
        refine V_iload dX12_balance_83 rfl ?_
        refine V_icmp_ne dX12_balance_84 (fun hc84 => ?_) (fun hc84 => ?_)
        · refine V_const dX12_balance_104 ?_
          refine V_goto dX12_balance_105 ?_
          refine V_is6 dX12_balance_109 (by decide) (noL_i _) ?_
          refine V_ii7 dX12_balance_111 (by decide) (noL_i _) ?_
          refine V_goto dX12_balance_114 ?_
          have hla : laM J m x s i b = true := by unfold laM; rw [hc73, decide_eq_false hc84]; rfl
          refine V.sub (lsS (lsS (lsS (lsS (lsS (lsS (lsE (by rw [hla]; rfl) (lsE (by rw [nI_1]) ls0)))))))) (ih (i + 1) (laM J m x s i b) (by omega) q)
        · refine V_aload dX12_balance_87 rfl ?_
          refine V_getRs fk_X12_109 dX12_balance_88 hM.1 hM.a1241.1 ?_
          refine V_iload dX12_balance_91 rfl ?_
          refine V_iald dX12_balance_93 hM.a1241.2 rfl (by omega) (by decide) ?_
          refine V_aload dX12_balance_94 rfl ?_
          refine V_getRs fk_X12_109 dX12_balance_95 hM.1 hM.a1241.1 ?_
          refine V_iload dX12_balance_98 rfl ?_
          refine V_iald dX12_balance_100 hM.a1241.2 rfl (by omega) (by decide) ?_
          refine V_icmp_eq dX12_balance_101 (fun hc101 => ?_) (fun hc101 => ?_)
          · refine V_const dX12_balance_108 ?_
            refine V_is6 dX12_balance_109 (by decide) (noL_i _) ?_
            refine V_ii7 dX12_balance_111 (by decide) (noL_i _) ?_
            refine V_goto dX12_balance_114 ?_
            have hla : laM J m x s i b = false := by unfold laM; rw [hc73, decide_eq_true hc84, decide_eq_true hc101]; rfl
            refine V.sub (lsS (lsS (lsS (lsS (lsS (lsS (lsE (by rw [hla]; rfl) (lsE (by rw [nI_1]) ls0)))))))) (ih (i + 1) (laM J m x s i b) (by omega) q)
          · refine V_const dX12_balance_104 ?_
            refine V_goto dX12_balance_105 ?_
            refine V_is6 dX12_balance_109 (by decide) (noL_i _) ?_
            refine V_ii7 dX12_balance_111 (by decide) (noL_i _) ?_
            refine V_goto dX12_balance_114 ?_
            have hla : laM J m x s i b = true := by unfold laM; rw [hc73, decide_eq_true hc84, decide_eq_false hc101]; rfl
            refine V.sub (lsS (lsS (lsS (lsS (lsS (lsS (lsE (by rw [hla]; rfl) (lsE (by rw [nI_1]) ls0)))))))) (ih (i + 1) (laM J m x s i b) (by omega) q)
theorem lp_X12_bal1 {l : Launch} {D : va_G} {A : Nat → Prop} {z : Nat} {t : TT} {I : MI} {R : MR} {J : MI} {B : MR} {m N : Nat} {p k x : Int32} {Φ : PP} (hM : MSt m t R) (hN : I 1204 m = nI N) (hN2 : N ≤ 200) : ∀ (n i : Nat) (a : Int32), i + n = N → V l D A (rmm 2 0 0) mX12_balance (KS D A 0 0 Φ) 0 0 z t I R J B 144 [some (va_rf (some m)), some (.int p), some (.int k), some (.int x), some (.int (itr (blM J m N x) i n a)), none, none, none] [] → V l D A (rmm 2 0 0) mX12_balance (KS D A 0 0 Φ) 0 0 z t I R J B 29 [some (va_rf (some m)), some (.int p), some (.int k), some (.int x), some (.int a), some (.int (nI i)), none, none] [] := by
  intro n
  induction n with
  | zero =>
    intro i a hin q
    have hi : i = N := by omega
    subst hi
    refine V_iload dX12_balance_29 rfl ?_
    refine V_aload dX12_balance_31 rfl ?_
    refine V_getIs fk_X12_206 dX12_balance_32 hM.1 hN ?_
    refine V_icmp_ge dX12_balance_35 (fun hc35 => ?_) (fun hc35 => ?_)
    · exact V.sub (lsS (lsS (lsS (lsS (lsS (lsN (lsN (lsN ls0)))))))) q
    · exact absurd (Int32.le_refl _) hc35
  | succ n ih =>
    intro i a hin q
    refine V_iload dX12_balance_29 rfl ?_
    refine V_aload dX12_balance_31 rfl ?_
    refine V_getIs fk_X12_206 dX12_balance_32 hM.1 hN ?_
    refine V_icmp_ge dX12_balance_35 (fun hc35 => ?_) (fun hc35 => ?_)
    · exact absurd hc35 (nI_ge (by omega) (by omega))
    · refine V_aload dX12_balance_38 rfl ?_
      refine V_getRs fk_X12_106 dX12_balance_39 hM.1 hM.a1240.1 ?_
      refine V_iload dX12_balance_42 rfl ?_
      refine V_iald dX12_balance_44 hM.a1240.2 rfl (by omega) (by decide) ?_
      refine V_iload dX12_balance_45 rfl ?_
      refine V_icmp_ne dX12_balance_46 (fun hc46 => ?_) (fun hc46 => ?_)
      · refine V_const dX12_balance_53 ?_
        refine V_is6 dX12_balance_54 (by decide) (noL_i _) ?_
        refine V_iload dX12_balance_56 rfl ?_
        refine V_const dX12_balance_58 ?_
        refine V_iadd dX12_balance_59 ?_
        refine V_is7 dX12_balance_60 (by decide) (noL_i _) ?_
        refine V.sub (lsS (lsS (lsS (lsS (lsS (lsS (lsE (by rw [show decide (J (m + 33) i = x) = false from decide_eq_false hc46]; rfl) (lsE (by rw [nI_1]) ls0)))))))) (lp_X12_bal2 (s := i) hM hN hN2 (by omega) (N - (i + 1)) (i + 1) (decide (J (m + 33) i = x)) (by omega) ?_)
        refine V_iload dX12_balance_117 rfl ?_
        refine V_iload dX12_balance_119 rfl ?_
        refine V_if_eq dX12_balance_121 (fun hc121 => ?_) (fun hc121 => ?_)
        · rw [bI_0] at hc121
          refine V_const dX12_balance_134 ?_
          refine V_iadd dX12_balance_135 ?_
          refine V_is4 dX12_balance_136 (by decide) (noL_i _) ?_
          refine V_ii5 dX12_balance_138 (by decide) (noL_i _) ?_
          refine V_goto dX12_balance_141 ?_
          exact V.sub (lsS (lsS (lsS (lsS (lsS (lsE (by rw [nI_1]) (lsN (lsN ls0)))))))) (ih (i + 1) _ (by omega) (by rw [itr] at q; unfold blM at q; rw [if_neg hc121] at q; exact q))
        · rw [bI_n0] at hc121
          refine V_aload dX12_balance_124 rfl ?_
          refine V_getRs fk_X12_112 dX12_balance_125 hM.1 hM.a1242.1 ?_
          refine V_iload dX12_balance_128 rfl ?_
          refine V_iald dX12_balance_130 hM.a1242.2 rfl (by omega) (by decide) ?_
          refine V_goto dX12_balance_131 ?_
          refine V_iadd dX12_balance_135 ?_
          refine V_is4 dX12_balance_136 (by decide) (noL_i _) ?_
          refine V_ii5 dX12_balance_138 (by decide) (noL_i _) ?_
          refine V_goto dX12_balance_141 ?_
          exact V.sub (lsS (lsS (lsS (lsS (lsS (lsE (by rw [nI_1]) (lsN (lsN ls0)))))))) (ih (i + 1) _ (by omega) (by rw [itr] at q; unfold blM at q; rw [if_pos hc121] at q; exact q))
      · refine V_const dX12_balance_49 ?_
        refine V_goto dX12_balance_50 ?_
        refine V_is6 dX12_balance_54 (by decide) (noL_i _) ?_
        refine V_iload dX12_balance_56 rfl ?_
        refine V_const dX12_balance_58 ?_
        refine V_iadd dX12_balance_59 ?_
        refine V_is7 dX12_balance_60 (by decide) (noL_i _) ?_
        refine V.sub (lsS (lsS (lsS (lsS (lsS (lsS (lsE (by rw [show decide (J (m + 33) i = x) = true from decide_eq_true hc46]; rfl) (lsE (by rw [nI_1]) ls0)))))))) (lp_X12_bal2 (s := i) hM hN hN2 (by omega) (N - (i + 1)) (i + 1) (decide (J (m + 33) i = x)) (by omega) ?_)
        refine V_iload dX12_balance_117 rfl ?_
        refine V_iload dX12_balance_119 rfl ?_
        refine V_if_eq dX12_balance_121 (fun hc121 => ?_) (fun hc121 => ?_)
        · rw [bI_0] at hc121
          refine V_const dX12_balance_134 ?_
          refine V_iadd dX12_balance_135 ?_
          refine V_is4 dX12_balance_136 (by decide) (noL_i _) ?_
          refine V_ii5 dX12_balance_138 (by decide) (noL_i _) ?_
          refine V_goto dX12_balance_141 ?_
          exact V.sub (lsS (lsS (lsS (lsS (lsS (lsE (by rw [nI_1]) (lsN (lsN ls0)))))))) (ih (i + 1) _ (by omega) (by rw [itr] at q; unfold blM at q; rw [if_neg hc121] at q; exact q))
        · rw [bI_n0] at hc121
          refine V_aload dX12_balance_124 rfl ?_
          refine V_getRs fk_X12_112 dX12_balance_125 hM.1 hM.a1242.1 ?_
          refine V_iload dX12_balance_128 rfl ?_
          refine V_iald dX12_balance_130 hM.a1242.2 rfl (by omega) (by decide) ?_
          refine V_goto dX12_balance_131 ?_
          refine V_iadd dX12_balance_135 ?_
          refine V_is4 dX12_balance_136 (by decide) (noL_i _) ?_
          refine V_ii5 dX12_balance_138 (by decide) (noL_i _) ?_
          refine V_goto dX12_balance_141 ?_
          exact V.sub (lsS (lsS (lsS (lsS (lsS (lsE (by rw [nI_1]) (lsN (lsN ls0)))))))) (ih (i + 1) _ (by omega) (by rw [itr] at q; unfold blM at q; rw [if_pos hc121] at q; exact q))
theorem sem_X12_balance {l : Launch} {D : va_G} {A : Nat → Prop} {z : Nat} {t : TT} {I : MI} {R : MR} {J : MI} {B : MR} {m N : Nat} {p k : Int32} {Φ : PP} (hM : MSt m t R) (hN : I 1204 m = nI N) (hN2 : N ≤ 200) (q0 : ¬ (0 ≤ p ∧ p ≤ 7 ∧ 0 ≤ k ∧ k ≤ 3) → Φ (some (.int (-1000000))) z t I R J B) (q : ∀ i j, i < 8 → j < 4 → p = nI i → k = nI j → Φ (some (.int (blS (itr (blM J m N (nI (4 * i + j))) 0 N 0) (J (m + 21) (4 * i + j))))) z t I R J B) : Sem l D A 2 0 0 mX12_balance [va_rf (some m), .int p, .int k] z t I R J B Φ := by
  refine Sem.run [some (va_rf (some m)), some (.int p), some (.int k), none, none, none, none, none] (by decide) rfl (ent_r (ent_i (ent_i (ent_none (ent_none (ent_none (ent_none (ent_none ent_nil)))))))) ?_
  refine V_iload dX12_balance_0 rfl ?_
  refine V_invS (As := [_]) ms_X12_isPlace lk_X12_119 dX12_balance_1 rfl rfl rfl (Nat.le_of_ble_eq_true rfl) ⟨⟨by decide, by decide⟩, by decide, by decide⟩ (sem_X12_isPlace ?_)
  refine V_if_eq dX12_balance_4 (fun hc4 => ?_) (fun hc4 => ?_)
  · rw [bI_0] at hc4
    refine V_ldc kk_X12_209 dX12_balance_14 ?_
    exact V_iret dX12_balance_16 rfl (by decide) (by decide) (q0 (fun h => hc4 ⟨h.1, h.2.1⟩))
  · rw [bI_n0] at hc4
    obtain ⟨i, hi, hvi⟩ := i_rng (N := 8) rfl hc4
    refine V_iload dX12_balance_7 rfl ?_
    refine V_invS (As := [_]) ms_X12_isKind lk_X12_123 dX12_balance_8 rfl rfl rfl (Nat.le_of_ble_eq_true rfl) ⟨⟨by decide, by decide⟩, by decide, by decide⟩ (sem_X12_isKind ?_)
    refine V_if_ne dX12_balance_11 (fun hc11 => ?_) (fun hc11 => ?_)
    · rw [bI_n0] at hc11
      obtain ⟨j, hj, hvj⟩ := i_rng (N := 4) rfl hc11
      refine V_const dX12_balance_17 ?_
      refine V_iload dX12_balance_18 rfl ?_
      refine V_imul dX12_balance_19 ?_
      refine V_iload dX12_balance_20 rfl ?_
      refine V_iadd dX12_balance_21 ?_
      rw [show (4 : Int32) * p + k = nI (4 * i + j) by rw [hvi, hvj, show (4 : Int32) = nI 4 from rfl, pk_mul, nI_add]]
      refine V_is3 dX12_balance_22 (by decide) (noL_i _) ?_
      refine V_const dX12_balance_23 ?_
      refine V_is4 dX12_balance_24 (by decide) (noL_i _) ?_
      refine V_const dX12_balance_26 ?_
      refine V_is5 dX12_balance_27 (by decide) (noL_i _) ?_
      refine V.sub (lsS (lsS (lsS (lsS (lsS (lsS (lsN (lsN ls0)))))))) (lp_X12_bal1 hM hN hN2 N 0 0 (by omega) ?_)
      refine V_iload dX12_balance_144 rfl ?_
      refine V_if_ge dX12_balance_146 (fun hc146 => ?_) (fun hc146 => ?_)
      · refine V_iload dX12_balance_168 rfl ?_
        exact V_iret dX12_balance_170 rfl (by decide) (by decide) (by have q := q i j hi hj hvi hvj; unfold blS at q; rw [if_neg (fun h => by rw [i_lt] at h; rw [i_le] at hc146; omega)] at q; exact q)
      · refine V_const dX12_balance_149 ?_
        refine V_iload dX12_balance_150 rfl ?_
        refine V_aload dX12_balance_152 rfl ?_
        refine V_getRs fk_X12_70 dX12_balance_153 hM.1 hM.a1225.1 ?_
        refine V_iload dX12_balance_156 rfl ?_
        refine V_iald dX12_balance_157 hM.a1225.2 rfl (by omega) (by decide) ?_
        refine V_const dX12_balance_158 ?_
        refine V_idiv dX12_balance_160 (by decide) ?_
        refine V_iadd dX12_balance_161 ?_
        refine V_jmin dX12_balance_162 lk_X12_144 (by decide) (by decide) (by decide) (by decide) (Nat.le_of_ble_eq_true rfl) ?_
        refine V_goto dX12_balance_165 ?_
        exact V_iret dX12_balance_170 rfl (by decide) (by decide) (by have q := q i j hi hj hvi hvj; unfold blS at q; rw [if_pos (by rw [i_le] at hc146; rw [i_lt]; omega)] at q; exact q)
    · rw [bI_0] at hc11
      refine V_ldc kk_X12_209 dX12_balance_14 ?_
      exact V_iret dX12_balance_16 rfl (by decide) (by decide) (q0 (fun h => hc11 ⟨h.2.2.1, h.2.2.2⟩))
theorem up2_uu {α : Type} (M : Nat → Nat → α) (f a : Nat) (v w : α) : up2 (up2 M f a v) f a w = up2 M f a w := by
  unfold up2
  rw [va_up_self, bx_uu, bx_uu]
theorem va_same {α : Type} (f : Nat → α) (a : Nat) : va_up f a (f a) = f := by
  funext b
  by_cases e : b = a
  · subst e; rw [va_up_self]
  · rw [va_up_ne _ _ e]
def cbS (x : Int32) (i : Nat) (s : Int32) : Int32 := if jb x (nI i) = 0 then s else s + 1
theorem lp_X11_bytesIn {l : Launch} {D : va_G} {A : Nat → Prop} {z : Nat} {t : TT} {I : MI} {R : MR} {J : MI} {B : MR} {x : Int32} {Φ : PP}  : ∀ (n i : Nat) (s : Int32), i + n = 4 → Φ (some (.int (itr (cbS x) i n s))) z t I R J B → V l D A (rmm 1 0 0) mX11_bytesIn (KS D A 0 0 Φ) 0 0 z t I R J B 4 [some (.int x), some (.int s), some (.int (nI i))] [] := by
  intro n
  induction n with
  | zero =>
    intro i s hin q
    have hi : i = 4 := by omega
    subst hi
    refine V_iload dX11_bytesIn_4 rfl ?_
    refine V_const dX11_bytesIn_5 ?_
    refine V_icmp_ge dX11_bytesIn_6 (fun hc6 => ?_) (fun hc6 => ?_)
    · refine V_iload dX11_bytesIn_26 rfl ?_
      exact V_iret dX11_bytesIn_27 rfl (by decide) (by decide) q
    · exact absurd (show (4 : Int32) ≤ nI 4 from Int32.le_refl _) hc6
  | succ n ih =>
    intro i s hin q
    refine V_iload dX11_bytesIn_4 rfl ?_
    refine V_const dX11_bytesIn_5 ?_
    refine V_icmp_ge dX11_bytesIn_6 (fun hc6 => ?_) (fun hc6 => ?_)
    · exact absurd hc6 (show ¬ nI 4 ≤ nI i from nI_ge (by omega) (by decide))
    · refine V_iload dX11_bytesIn_9 rfl ?_
      refine V_iload dX11_bytesIn_10 rfl ?_
      refine V_invS (As := [_, _]) ms_X11_byteOf lk_X11_289 dX11_bytesIn_11 rfl rfl rfl (Nat.le_of_ble_eq_true rfl) ⟨⟨by decide, by decide⟩, by decide, by decide⟩ (sem_X11_byteOf ?_)
      refine V_if_eq dX11_bytesIn_14 (fun hc14 => ?_) (fun hc14 => ?_)
      · refine V_ii2 dX11_bytesIn_20 (by decide) (noL_i _) ?_
        refine V_goto dX11_bytesIn_23 ?_
        exact V.sub (lsS (lsS (lsE (by rw [nI_1]) ls0))) (ih (i + 1) _ (by omega) (by rw [itr] at q; unfold cbS at q; rw [if_pos hc14] at q; exact q))
      · refine V_ii1 dX11_bytesIn_17 (by decide) (noL_i _) ?_
        refine V_ii2 dX11_bytesIn_20 (by decide) (noL_i _) ?_
        refine V_goto dX11_bytesIn_23 ?_
        exact V.sub (lsS (lsS (lsE (by rw [nI_1]) ls0))) (ih (i + 1) _ (by omega) (by rw [itr] at q; unfold cbS at q; rw [if_neg hc14] at q; exact q))
theorem sem_X11_bytesIn {l : Launch} {D : va_G} {A : Nat → Prop} {z : Nat} {t : TT} {I : MI} {R : MR} {J : MI} {B : MR} {x : Int32} {Φ : PP}  (q : Φ (some (.int (itr (cbS x) 0 4 0))) z t I R J B) : Sem l D A 1 0 0 mX11_bytesIn [.int x] z t I R J B Φ := by
  refine Sem.run [some (.int x), none, none] (by decide) rfl (ent_i (ent_none (ent_none ent_nil))) ?_
  refine V_const dX11_bytesIn_0 ?_
  refine V_is1 dX11_bytesIn_1 (by decide) (noL_i _) ?_
  refine V_const dX11_bytesIn_2 ?_
  refine V_is2 dX11_bytesIn_3 (by decide) (noL_i _) ?_
  exact lp_X11_bytesIn 4 0 0 (by omega) q
/-- a byte more, if it isn't 0 -/
def adS (x : Int32) (i : Nat) (s : Nat × (Nat → Int32)) : Nat × (Nat → Int32) := if jb x (nI i) = 0 then s else if s.1 < 200 then (s.1 + 1, va_up s.2 s.1 (jb x (nI i))) else s
theorem lp_X10_addBytesOf {l : Launch} {D : va_G} {A : Nat → Prop} {z : Nat} {t : TT} {I : MI} {R : MR} {J : MI} {B : MR} {o ab : Nat} {x : Int32} {Φ : PP} (ho : (t o).1 = 11) (h1 : R 1000 o = some ab) (h2 : t ab = (20, 200)) : ∀ (n i : Nat) (s : Nat × (Nat → Int32)), s.1 ≤ 200 → i + n = 4 → Φ none z t (up2 I 1001 o (nI (itr (adS x) i n s).1)) R (va_up J ab (itr (adS x) i n s).2) B → V l D A (rmm 1 0 0) mX10_addBytesOf (KS D A 0 0 Φ) 0 0 z t (up2 I 1001 o (nI s.1)) R (va_up J ab s.2) B 2 [some (va_rf (some o)), some (.int x), some (.int (nI i)), none] [] := by
  intro n
  induction n with
  | zero =>
    intro i s hs hin q
    have hi : i = 4 := by omega
    subst hi
    refine V_iload dX10_addBytesOf_2 rfl ?_
    refine V_const dX10_addBytesOf_3 ?_
    refine V_icmp_ge dX10_addBytesOf_4 (fun hc4 => ?_) (fun hc4 => ?_)
    · exact V_vret dX10_addBytesOf_53 rfl (by decide) (by decide) q
    · exact absurd (show (4 : Int32) ≤ nI 4 from Int32.le_refl _) hc4
  | succ n ih =>
    intro i s hs hin q
    refine V_iload dX10_addBytesOf_2 rfl ?_
    refine V_const dX10_addBytesOf_3 ?_
    refine V_icmp_ge dX10_addBytesOf_4 (fun hc4 => ?_) (fun hc4 => ?_)
    · exact absurd hc4 (show ¬ nI 4 ≤ nI i from nI_ge (by omega) (by decide))
    · refine V_iload dX10_addBytesOf_7 rfl ?_
      refine V_iload dX10_addBytesOf_8 rfl ?_
      refine V_invSN (As := [_, _]) (host := "FleetStores") ms_X11_byteOf (by decide +kernel) dX10_addBytesOf_9 rfl rfl (Nat.le_of_ble_eq_true rfl) ⟨⟨by decide, by decide⟩, by decide, by decide⟩ (sem_X11_byteOf ?_)
      refine V_is3 dX10_addBytesOf_12 (by decide) (noL_i _) ?_
      refine V_iload dX10_addBytesOf_13 rfl ?_
      refine V_if_eq dX10_addBytesOf_14 (fun hc14 => ?_) (fun hc14 => ?_)
      · refine V_ii2 dX10_addBytesOf_47 (by decide) (noL_i _) ?_
        refine V_goto dX10_addBytesOf_50 ?_
        exact V.sub (lsS (lsS (lsE (by rw [nI_1]) (lsN ls0)))) (ih (i + 1) s hs (by omega) (by rw [itr, show adS x i s = s from if_pos hc14] at q; exact q))
      · refine V_aload dX10_addBytesOf_17 rfl ?_
        refine V_getIs fk_X10_19 dX10_addBytesOf_18 (by assumption) up2s ?_
        refine V_const dX10_addBytesOf_21 ?_
        refine V_icmp_ge dX10_addBytesOf_24 (fun hc24 => ?_) (fun hc24 => ?_)
        · have hl : ¬ s.1 < 200 := fun h => absurd hc24 (show ¬ nI 200 ≤ nI s.1 from nI_ge h (by decide))
          refine V_ii2 dX10_addBytesOf_47 (by decide) (noL_i _) ?_
          refine V_goto dX10_addBytesOf_50 ?_
          exact V.sub (lsS (lsS (lsE (by rw [nI_1]) (lsN ls0)))) (ih (i + 1) s hs (by omega) (by rw [itr, show adS x i s = s by unfold adS; rw [if_neg hc14, if_neg hl]] at q; exact q))
        · have hl : s.1 < 200 := by
            rcases Nat.lt_or_ge s.1 200 with h | h
            · exact h
            · exact absurd (show nI 200 ≤ nI s.1 from nI_le h (by omega)) hc24
          refine V_aload dX10_addBytesOf_27 rfl ?_
          refine V_getRs fk_X10_9 dX10_addBytesOf_28 (by assumption) h1 ?_
          refine V_aload dX10_addBytesOf_31 rfl ?_
          refine V_getIs fk_X10_19 dX10_addBytesOf_32 (by assumption) up2s ?_
          refine V_iload dX10_addBytesOf_35 rfl ?_
          refine V_iast dX10_addBytesOf_36 h2 rfl hl (by decide) ?_
          refine V_aload dX10_addBytesOf_37 rfl ?_
          refine V_dupr dX10_addBytesOf_38 ?_
          refine V_getIs fk_X10_19 dX10_addBytesOf_39 (by assumption) up2s ?_
          refine V_const dX10_addBytesOf_42 ?_
          refine V_iadd dX10_addBytesOf_43 ?_
          refine V_putI fk_X10_19 (Or.inl rfl) rfl rfl dX10_addBytesOf_44 (by assumption) ?_
          refine V_ii2 dX10_addBytesOf_47 (by decide) (noL_i _) ?_
          refine V_goto dX10_addBytesOf_50 ?_
          rw [up2_uu, nI_1]
          unfold up2
          rw [va_up_self, bx_uu]
          rw [← show up2 I 1001 o (nI (s.1 + 1)) = va_up I 1001 (va_up (I 1001) o (nI (s.1 + 1))) from rfl]
          exact V.sub (lsS (lsS (lsE (by rw [nI_1]) (lsN ls0)))) (ih (i + 1) (s.1 + 1, va_up s.2 s.1 (jb x (nI i))) (by show s.1 + 1 ≤ 200; omega) (by omega) (by rw [itr, show adS x i s = (s.1 + 1, va_up s.2 s.1 (jb x (nI i))) by unfold adS; rw [if_neg hc14, if_pos hl]] at q; exact q))
theorem sem_X10_addBytesOf {l : Launch} {D : va_G} {A : Nat → Prop} {z : Nat} {t : TT} {I : MI} {R : MR} {J : MI} {B : MR} {o ab n : Nat} {x : Int32} {Φ : PP} (ho : (t o).1 = 11) (h1 : R 1000 o = some ab) (h2 : t ab = (20, 200)) (hn : I 1001 o = nI n) (hn2 : n ≤ 200) (q : Φ none z t (up2 I 1001 o (nI (itr (adS x) 0 4 (n, J ab)).1)) R (va_up J ab (itr (adS x) 0 4 (n, J ab)).2) B) : Sem l D A 1 0 0 mX10_addBytesOf [va_rf (some o), .int x] z t I R J B Φ := by
  refine Sem.run [some (va_rf (some o)), some (.int x), none, none] (by decide) rfl (ent_r (ent_i (ent_none (ent_none ent_nil)))) ?_
  refine V_const dX10_addBytesOf_0 ?_
  refine V_is2 dX10_addBytesOf_1 (by decide) (noL_i _) ?_
  have h := lp_X10_addBytesOf (l := l) (D := D) (A := A) (z := z) (J := J) (I := I) (B := B) (Φ := Φ) (x := x) ho h1 h2 4 0 (n, J ab) hn2 (by omega) q
  rw [show up2 I 1001 o (nI (n, J ab).1) = I by show up2 I 1001 o (nI n) = I; rw [← hn, up2_same], show va_up J ab (n, J ab).2 = J from va_same J ab] at h
  exact h
