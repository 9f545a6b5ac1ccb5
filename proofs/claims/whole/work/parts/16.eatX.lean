-- THE CLASS'S WEEK: eating, the stocks, the week
section TL
variable {l : Launch} {D : va_G} {A : Nat → Prop} {Rm : Room} {μ : Meth} {K : Kx} {k n z : Nat} {t : TT} {I : MI} {R : MR} {J : MI} {B : MR} {pc : Nat} {lv : List (Option Value)} {st : List Value}
/-- all cells that are known lie below the heap's end -/
theorem V.lt (kk : (∀ a, (t a).1 ≠ 0 → a < z) → V l D A Rm μ K k n z t I R J B pc lv st) : V l D A Rm μ K k n z t I R J B pc lv st := by
  intro p e s m args below meth c C X H locs ls hR hS hl
  exact kk (fun a ha => (hR.2.2 a ha).1.2) p e s m args below meth c C X H locs ls hR hS hl
end TL
theorem Chain.up {t : TT} {R : MR} {z : Nat} {τ : Nat × Nat} (hz : ∀ a, (t a).1 ≠ 0 → a < z) : ∀ (ch : List Nat) (r : Option Nat), Chain t R r ch → Chain (va_up t z τ) R r ch
  | [], _, h => h
  | a :: as, r, h => by
    obtain ⟨h1, h2, h3⟩ := h
    have := hz a (by omega)
    exact ⟨h1, by rw [va_up_ne _ _ (by omega)]; exact h2, Chain.up hz as _ h3⟩
def stE1 (x : Nat) (i : Nat) (I : MI) : MI := up2 (up2 I 900 (xSo x i + 1) (I 900 (xSo x i + 1) - jmin (I 900 (xSo x i + 1)) (7 * I 501 (xPl x (i / 4))))) 901 (xSo x i + 1) (7 * I 501 (xPl x (i / 4)) - jmin (I 900 (xSo x i + 1)) (7 * I 501 (xPl x (i / 4))))
def nE2 (x : Nat) (si : Nat → Nat) (I : MI) (a : Nat) : Int32 := opN (I 901 (xSo x (si a) + 1)) (I 306 a) (I 102 (xKd x (si a % 4)))
def stE2 (x : Nat) (si : Nat → Nat) (I : MI) (a : Nat) : MI := if I 307 a = -1 then
  up2 (up2 (up2 (up2 (up2 I 900 (xSo x (si a) + 1) (opL (I 900 (xSo x (si a) + 1)) (I 901 (xSo x (si a) + 1)) (I 306 a) (I 102 (xKd x (si a % 4))))) 901 (xSo x (si a) + 1) (opW (I 901 (xSo x (si a) + 1)) (I 306 a) (I 102 (xKd x (si a % 4))))) 306 a (I 306 a - nE2 x si I a)) 705 (xSo x (si a)) (I 705 (xSo x (si a)) + nE2 x si I a)) 1114 x (I 1114 x + nE2 x si I a) else I
def stE3 (x : Nat) (i : Nat) (I : MI) : MI := up2 I 706 (xSo x i) (I 706 (xSo x i) + I 901 (xSo x i + 1))
def eatX (x : Nat) (si : Nat → Nat) (ch : List Nat) (I : MI) : MI := itr (stE3 x) 0 32 (ch.foldl (stE2 x si) (itr (stE1 x) 0 32 I))
theorem lp_X11_eat1 {l : Launch} {D : va_G} {A : Nat → Prop} {z : Nat} {t : TT} {R : MR} {J : MI} {B : MR} {x : Nat} {I0 : MI} {Φ : PP} (hX : XSt x t I0 R B) : ∀ (n i : Nat) (I : MI), i + n = 32 → V l D A (rmm 2 0 0) mX11_eat (KS D A 0 0 Φ) 0 0 z t (itr (stE1 x) i n I) R J B 42 [some (va_rf (some x)), none, none, none, none] [] → V l D A (rmm 2 0 0) mX11_eat (KS D A 0 0 Φ) 0 0 z t I R J B 10 [some (va_rf (some x)), some (va_rf (some (x + 3))), some (.int (nI 32)), some (.int (nI i)), none] [] := by
  intro n
  induction n with
  | zero =>
    intro i I hin kk
    have hi : i = 32 := by omega
    subst hi
    refine V_iload dX11_eat_10 rfl ?_
    refine V_iload dX11_eat_11 rfl ?_
    refine V_icmp_ge dX11_eat_12 (fun hc12 => ?_) (fun hc12 => ?_)
    · exact V.sub (lsS (lsN (lsN (lsN (lsN ls0))))) kk
    · exact absurd (Int32.le_refl _) hc12
  | succ n ih =>
    intro i I hin kk
    refine V_iload dX11_eat_10 rfl ?_
    refine V_iload dX11_eat_11 rfl ?_
    refine V_icmp_ge dX11_eat_12 (fun hc12 => ?_) (fun hc12 => ?_)
    · exact absurd hc12 (nI_ge (by omega) (by decide))
    · refine V_aload dX11_eat_15 rfl ?_
      refine V_iload dX11_eat_16 rfl ?_
      refine V_aalds (j := 2) dX11_eat_17 rfl (by decide) hX.so.2.1 rfl (by omega) (by decide) (hX.so.2.2 i (by omega)).1 ?_
      refine V_as4 dX11_eat_18 (by decide) (noL_i _) ?_
      refine V_aload dX11_eat_20 rfl ?_
      refine V_getRs fk_X11_198 dX11_eat_22 (hX.so.2.2 i (by omega)).2.1 (hX.so.2.2 i (by omega)).2.2.2.2.2.1 ?_
      refine V_aload dX11_eat_25 rfl ?_
      refine V_getRs fk_X11_154 dX11_eat_27 (hX.so.2.2 i (by omega)).2.1 (hX.so.2.2 i (by omega)).2.2.2.1 ?_
      refine V_invV (As := []) mv_X5_wants lk_X11_304 dX11_eat_30 (c := 5) (by decide) rfl rfl (hX.pl.2.2 (i / 4) (by omega)).2.1 rfl rfl (Nat.le_of_ble_eq_true rfl) ⟨⟨by decide, by decide⟩, by decide, by decide⟩ (sem_X5_wants (hX.pl.2.2 (i / 4) (by omega)).2.1 ?_)
      refine V_invV (As := [_]) mv_X9_sitDown lk_X11_307 dX11_eat_33 (c := 9) (by decide) rfl rfl (hX.so.2.2 i (by omega)).2.2.2.2.2.2.2.1 rfl rfl (Nat.le_of_ble_eq_true rfl) ⟨⟨by decide, by decide⟩, by decide, by decide⟩ (sem_X9_sitDown (hX.so.2.2 i (by omega)).2.2.2.2.2.2.2.1 ?_)
      refine V_ii3 dX11_eat_36 (by decide) (noL_i _) ?_
      refine V_goto dX11_eat_39 ?_
      exact V.sub (lsS (lsS (lsS (lsE (by rw [nI_1]) (lsN ls0))))) (ih (i + 1) _ (by omega) kk)
theorem lp_X11_eat3 {l : Launch} {D : va_G} {A : Nat → Prop} {z : Nat} {t : TT} {R : MR} {J : MI} {B : MR} {x : Nat} {I0 : MI} {Φ : PP} (hX : XSt x t I0 R B) : ∀ (n i : Nat) (I : MI), i + n = 32 → V l D A (rmm 2 0 0) mX11_eat (KS D A 0 0 Φ) 0 0 z t (itr (stE3 x) i n I) R J B 171 [some (va_rf (some x)), none, none, none, none] [] → V l D A (rmm 2 0 0) mX11_eat (KS D A 0 0 Φ) 0 0 z t I R J B 137 [some (va_rf (some x)), some (va_rf (some (x + 3))), some (.int (nI 32)), some (.int (nI i)), none] [] := by
  intro n
  induction n with
  | zero =>
    intro i I hin kk
    have hi : i = 32 := by omega
    subst hi
    refine V_iload dX11_eat_137 rfl ?_
    refine V_iload dX11_eat_138 rfl ?_
    refine V_icmp_ge dX11_eat_139 (fun hc139 => ?_) (fun hc139 => ?_)
    · exact V.sub (lsS (lsN (lsN (lsN (lsN ls0))))) kk
    · exact absurd (Int32.le_refl _) hc139
  | succ n ih =>
    intro i I hin kk
    refine V_iload dX11_eat_137 rfl ?_
    refine V_iload dX11_eat_138 rfl ?_
    refine V_icmp_ge dX11_eat_139 (fun hc139 => ?_) (fun hc139 => ?_)
    · exact absurd hc139 (nI_ge (by omega) (by decide))
    · refine V_aload dX11_eat_142 rfl ?_
      refine V_iload dX11_eat_143 rfl ?_
      refine V_aalds (j := 2) dX11_eat_144 rfl (by decide) hX.so.2.1 rfl (by omega) (by decide) (hX.so.2.2 i (by omega)).1 ?_
      refine V_as4 dX11_eat_145 (by decide) (noL_i _) ?_
      refine V_aload dX11_eat_147 rfl ?_
      refine V_dupr dX11_eat_149 ?_
      refine V_getI fk_X11_207 dX11_eat_150 (hX.so.2.2 i (by omega)).2.1 ?_
      refine V_aload dX11_eat_153 rfl ?_
      refine V_getRs fk_X11_198 dX11_eat_155 (hX.so.2.2 i (by omega)).2.1 (hX.so.2.2 i (by omega)).2.2.2.2.2.1 ?_
      refine V_getI fk_X11_316 dX11_eat_158 (hX.so.2.2 i (by omega)).2.2.2.2.2.2.2.1 ?_
      refine V_iadd dX11_eat_161 ?_
      refine V_putI fk_X11_207 (Or.inl rfl) rfl rfl dX11_eat_162 (hX.so.2.2 i (by omega)).2.1 ?_
      refine V_ii3 dX11_eat_165 (by decide) (noL_i _) ?_
      refine V_goto dX11_eat_168 ?_
      exact V.sub (lsS (lsS (lsS (lsE (by rw [nI_1]) (lsN ls0))))) (ih (i + 1) _ (by omega) kk)
def SiOk (x : Nat) (R : MR) (si : Nat → Nat) (ch : List Nat) : Prop := ∀ a ∈ ch, R 300 a = some (xSo x (si a)) ∧ si a < 32
theorem lp_X11_eat2 {l : Launch} {D : va_G} {A : Nat → Prop} {z : Nat} {t : TT} {R : MR} {J : MI} {B : MR} {x : Nat} {I0 : MI} {si : Nat → Nat} {Φ : PP} (hX : XSt x t I0 R B) : ∀ (rest : List Nat) (r : Option Nat) (I : MI) (hok : SiOk x R si rest), Chain t R r rest → V l D A (rmm 2 0 0) mX11_eat (KS D A 0 0 Φ) 0 0 z t (rest.foldl (stE2 x si) I) R J B 127 [some (va_rf (some x)), none, none, none, none] [] → V l D A (rmm 2 0 0) mX11_eat (KS D A 0 0 Φ) 0 0 z t I R J B 50 [some (va_rf (some x)), some (va_rf r), none, none, none] [] := by
  intro rest
  induction rest with
  | nil =>
    intro r I hok hch q
    have hr : r = none := hch
    subst hr
    refine V_aload dX11_eat_50 rfl ?_
    refine V_ifnull dX11_eat_51 (fun hn51 => ?_) (fun a51 hs51 => ?_)
    · exact V.sub (lsS (lsN (lsN (lsN (lsN ls0))))) q
    · exact absurd hs51 (by simp)
  | cons a as ih =>
    intro r I hok hch q
    obtain ⟨rfl, ha, hch⟩ := hch
    obtain ⟨hsi, hsl⟩ := hok a List.mem_cons_self
    have hk4 : si a % 4 < 4 := Nat.mod_lt _ (by decide)
    have hok : SiOk x R si as := fun b hb => hok b (List.mem_cons_of_mem _ hb)
    refine V_aload dX11_eat_50 rfl ?_
    refine V_ifnull dX11_eat_51 (fun hn51 => ?_) (fun a51 hs51 => ?_)
    · exact absurd hn51 (by simp)
    · cases hs51
      refine V_aload dX11_eat_54 rfl ?_
      refine V_invV (As := []) mv_X3_isThere lk_X11_144 dX11_eat_55 (c := 3) (by decide) rfl rfl (by assumption) rfl rfl (Nat.le_of_ble_eq_true rfl) ⟨⟨by decide, by decide⟩, by decide, by decide⟩ (sem_X3_isThere ha ?_)
      refine V_if_eq dX11_eat_58 (fun hc58 => ?_) (fun hc58 => ?_)
      · rw [bI_0] at hc58
        refine V_aload dX11_eat_119 rfl ?_
        refine V_getR fk_X11_262 dX11_eat_120 (by assumption) ?_
        refine V_as1 dX11_eat_123 (by decide) (noL_r _) ?_
        refine V_goto dX11_eat_124 ?_
        exact V.sub (lsS (lsS (lsN (lsN (lsN ls0))))) (ih _ _ hok hch (by rw [List.foldl_cons, show stE2 x si I a = I from if_neg hc58] at q; exact q))
      · rw [bI_n0] at hc58
        refine V_aload dX11_eat_61 rfl ?_
        refine V_getRs fk_X11_150 dX11_eat_62 (by assumption) hsi ?_
        refine V_getRs fk_X11_198 dX11_eat_65 (hX.so.2.2 _ hsl).2.1 (hX.so.2.2 _ hsl).2.2.2.2.2.1 ?_
        refine V_aload dX11_eat_68 rfl ?_
        refine V_getI fk_X11_147 dX11_eat_69 (by assumption) ?_
        refine V_aload dX11_eat_72 rfl ?_
        refine V_getRs fk_X11_150 dX11_eat_73 (by assumption) hsi ?_
        refine V_getRs fk_X11_161 dX11_eat_76 (hX.so.2.2 _ hsl).2.1 (hX.so.2.2 _ hsl).2.2.2.2.1 ?_
        refine V_getI fk_X11_101 dX11_eat_79 (hX.kd.2.2 _ hk4).2.1 ?_
        refine V_invV (As := [_, _]) mv_X9_openFrom lk_X11_310 dX11_eat_82 (c := 9) (by decide) rfl rfl (hX.so.2.2 _ hsl).2.2.2.2.2.2.2.1 rfl rfl (Nat.le_of_ble_eq_true rfl) ⟨⟨by decide, by decide⟩, by decide, by decide⟩ (sem_X9_openFrom (hX.so.2.2 _ hsl).2.2.2.2.2.2.2.1 ?_)
        refine V_is2 dX11_eat_85 (by decide) (noL_r _) ?_
        refine V_aload dX11_eat_86 rfl ?_
        refine V_dupr dX11_eat_87 ?_
        refine V_getIs fk_X11_147 dX11_eat_88 (by assumption) ((up2n (by decide)).trans (up2n (by decide))) ?_
        refine V_iload dX11_eat_91 rfl ?_
        refine V_isub dX11_eat_92 ?_
        refine V_putI fk_X11_147 (Or.inl rfl) rfl rfl dX11_eat_93 (by assumption) ?_
        refine V_aload dX11_eat_96 rfl ?_
        refine V_getRs fk_X11_150 dX11_eat_97 (by assumption) hsi ?_
        refine V_dupr dX11_eat_100 ?_
        refine V_getIs fk_X11_313 dX11_eat_101 (hX.so.2.2 _ hsl).2.1 ((up2n (by decide)).trans ((up2n (by decide)).trans (up2n (by decide)))) ?_
        refine V_iload dX11_eat_104 rfl ?_
        refine V_iadd dX11_eat_105 ?_
        refine V_putI fk_X11_313 (Or.inl rfl) rfl rfl dX11_eat_106 (hX.so.2.2 _ hsl).2.1 ?_
        refine V_aload dX11_eat_109 rfl ?_
        refine V_dupr dX11_eat_110 ?_
        refine V_getIs fk_X11_286 dX11_eat_111 hX.hx ((up2n (by decide)).trans ((up2n (by decide)).trans ((up2n (by decide)).trans (up2n (by decide))))) ?_
        refine V_iload dX11_eat_114 rfl ?_
        refine V_iadd dX11_eat_115 ?_
        refine V_putI fk_X11_286 (Or.inl rfl) rfl rfl dX11_eat_116 hX.hx ?_
        refine V_aload dX11_eat_119 rfl ?_
        refine V_getR fk_X11_262 dX11_eat_120 (by assumption) ?_
        refine V_as1 dX11_eat_123 (by decide) (noL_r _) ?_
        refine V_goto dX11_eat_124 ?_
        exact V.sub (lsS (lsS (lsN (lsN (lsN ls0))))) (ih _ _ hok hch (by rw [List.foldl_cons] at q; unfold stE2 nE2 at q; rw [if_pos hc58] at q; exact q))
theorem sem_X11_eat {l : Launch} {D : va_G} {A : Nat → Prop} {z : Nat} {t : TT} {I : MI} {R : MR} {J : MI} {B : MR} {x : Nat} {si : Nat → Nat} {ch : List Nat} {Φ : PP} (hX : XSt x t I R B) (hok : SiOk x R si ch) (hch : Chain t R (R 402 (x + 127)) ch) (q : Φ none z t (eatX x si ch I) R J B) : Sem l D A 2 0 0 mX11_eat [va_rf (some x)] z t I R J B Φ := by
  refine Sem.run [some (va_rf (some x)), none, none, none, none] (by decide) rfl (ent_r (ent_none (ent_none (ent_none (ent_none ent_nil))))) ?_
  refine V_aload dX11_eat_0 rfl ?_
  refine V_getRs fk_X11_23 dX11_eat_1 hX.hx hX.so.1 ?_
  refine V_as1 dX11_eat_4 (by decide) (noL_r _) ?_
  refine V_aload dX11_eat_5 rfl ?_
  refine V_alen dX11_eat_6 (Or.inr ⟨2, rfl, by decide⟩) hX.so.2.1 rfl ?_
  refine V_is2 dX11_eat_7 (by decide) (noL_r _) ?_
  refine V_const dX11_eat_8 ?_
  refine V_is3 dX11_eat_9 (by decide) (noL_i _) ?_
  refine V.sub (lsS (lsS (lsS (lsS (lsN ls0))))) (lp_X11_eat1 hX 32 0 I rfl ?_)
  refine V_aload dX11_eat_42 rfl ?_
  refine V_getRs fk_X11_47 dX11_eat_43 hX.hx hX.lo.1 ?_
  refine V_getR fk_X11_258 dX11_eat_46 hX.lo.2.1 ?_
  refine V_as1 dX11_eat_49 (by decide) (noL_r _) ?_
  refine V.sub (lsS (lsS (lsN (lsN (lsN ls0))))) (lp_X11_eat2 hX ch _ _ hok hch ?_)
  refine V_aload dX11_eat_127 rfl ?_
  refine V_getRs fk_X11_23 dX11_eat_128 hX.hx hX.so.1 ?_
  refine V_as1 dX11_eat_131 (by decide) (noL_r _) ?_
  refine V_aload dX11_eat_132 rfl ?_
  refine V_alen dX11_eat_133 (Or.inr ⟨2, rfl, by decide⟩) hX.so.2.1 rfl ?_
  refine V_is2 dX11_eat_134 (by decide) (noL_r _) ?_
  refine V_const dX11_eat_135 ?_
  refine V_is3 dX11_eat_136 (by decide) (noL_i _) ?_
  refine V.sub (lsS (lsS (lsS (lsS (lsN ls0))))) (lp_X11_eat3 hX 32 0 _ rfl ?_)
  exact V_vret dX11_eat_171 rfl (by decide) (by decide) q
def rowS (si : Nat → Nat) (I : MI) (f : Nat → Int32) (a : Nat) : Nat → Int32 := if I 307 a = -1 then va_up f (si a) (f (si a) + I 306 a) else f
theorem lp_X11_writeStocks {l : Launch} {D : va_G} {A : Nat → Prop} {z : Nat} {t : TT} {I : MI} {R : MR} {B : MR} {x y : Nat} {si : Nat → Nat} {Φ : PP} (hX : XSt x t I R B) (hy : t y = (20, 32)) (J : MI) : ∀ (rest : List Nat) (r : Option Nat) (f : Nat → Int32) (hok : SiOk x R si rest), Chain t R r rest → V l D A (rmm 1 1 32) mX11_writeStocks (KS D A 1 32 Φ) (0 + 1) (0 + 32) z t I R (va_up J y (rest.foldl (rowS si I) f)) B 48 [some (va_rf (some x)), some (va_rf (some y)), none] [] → V l D A (rmm 1 1 32) mX11_writeStocks (KS D A 1 32 Φ) (0 + 1) (0 + 32) z t I R (va_up J y f) B 13 [some (va_rf (some x)), some (va_rf (some y)), some (va_rf r)] [] := by
  intro rest
  induction rest with
  | nil =>
    intro r f hok hch q
    have hr : r = none := hch
    subst hr
    refine V_aload dX11_writeStocks_13 rfl ?_
    refine V_ifnull dX11_writeStocks_14 (fun hn14 => ?_) (fun a14 hs14 => ?_)
    · exact V.sub (lsS (lsS (lsN ls0))) q
    · exact absurd hs14 (by simp)
  | cons a as ih =>
    intro r f hok hch q
    obtain ⟨rfl, ha, hch⟩ := hch
    obtain ⟨hsi, hsl⟩ := hok a List.mem_cons_self
    have hok : SiOk x R si as := fun b hb => hok b (List.mem_cons_of_mem _ hb)
    refine V_aload dX11_writeStocks_13 rfl ?_
    refine V_ifnull dX11_writeStocks_14 (fun hn14 => ?_) (fun a14 hs14 => ?_)
    · exact absurd hn14 (by simp)
    · cases hs14
      refine V_aload dX11_writeStocks_17 rfl ?_
      refine V_invV (As := []) mv_X3_isThere lk_X11_144 dX11_writeStocks_18 (c := 3) (by decide) rfl rfl (by assumption) rfl rfl (Nat.le_of_ble_eq_true rfl) ⟨⟨by decide, by decide⟩, by decide, by decide⟩ (sem_X3_isThere ha ?_)
      refine V_if_eq dX11_writeStocks_21 (fun hc21 => ?_) (fun hc21 => ?_)
      · rw [bI_0] at hc21
        refine V_aload dX11_writeStocks_40 rfl ?_
        refine V_getR fk_X11_262 dX11_writeStocks_41 (by assumption) ?_
        refine V_as2 dX11_writeStocks_44 (by decide) (noL_r _) ?_
        refine V_goto dX11_writeStocks_45 ?_
        exact V.sub (lsS (lsS (lsS ls0))) (ih _ _ hok hch (by rw [List.foldl_cons, show rowS si I f a = f from if_neg hc21] at q; exact q))
      · rw [bI_n0] at hc21
        refine V_aload dX11_writeStocks_24 rfl ?_
        refine V_aload dX11_writeStocks_25 rfl ?_
        refine V_getRs fk_X11_150 dX11_writeStocks_26 (by assumption) hsi ?_
        refine V_getIs fk_X11_292 dX11_writeStocks_29 (hX.so.2.2 _ hsl).2.1 (hX.so.2.2 _ hsl).2.2.1 ?_
        refine V_dup2ir dX11_writeStocks_32 ?_
        refine V_iald dX11_writeStocks_33 hy rfl hsl (by decide) ?_
        refine V_aload dX11_writeStocks_34 rfl ?_
        refine V_getI fk_X11_147 dX11_writeStocks_35 (by assumption) ?_
        refine V_iadd dX11_writeStocks_38 ?_
        refine V_iast dX11_writeStocks_39 hy rfl hsl (by decide) ?_
        refine V_aload dX11_writeStocks_40 rfl ?_
        refine V_getR fk_X11_262 dX11_writeStocks_41 (by assumption) ?_
        refine V_as2 dX11_writeStocks_44 (by decide) (noL_r _) ?_
        refine V_goto dX11_writeStocks_45 ?_
        unfold up2
        rw [bx_uu, va_up_self]
        exact V.sub (lsS (lsS (lsS ls0))) (ih _ _ hok hch (by rw [List.foldl_cons, show rowS si I f a = va_up f (si a) (f (si a) + I 306 a) from if_pos hc21] at q; exact q))
theorem XSt.up {x z : Nat} {t : TT} {I : MI} {R : MR} {B : MR} {τ : Nat × Nat} (h : XSt x t I R B) (hz : x + 141 ≤ z) : XSt x (va_up t z τ) I R B := by
  have e : ∀ a, a < x + 141 → va_up t z τ a = t a := fun a ha => va_up_ne _ _ (by omega)
  unfold XSt at h ⊢
  simp only [xPl, xSo, xKd] at h ⊢
  obtain ⟨h1, ⟨h2, h3, h4⟩, ⟨h5, h6, h7⟩, ⟨h8, h9, h10⟩, ⟨h11, h12⟩, ⟨h13, h14, h15⟩, ⟨h16, h17, h18, h19⟩, ⟨h20, h21, h22, h23⟩, ⟨h24, h25, h26⟩, ⟨h27, h28⟩, h29, h30, h31, h32, h33, h34⟩ := h
  refine ⟨by rw [e _ (by omega)]; exact h1, ⟨h2, by rw [e _ (by omega)]; exact h3, fun p hp => ?_⟩, ⟨h5, by rw [e _ (by omega)]; exact h6, fun k hk => ?_⟩, ⟨h8, by rw [e _ (by omega)]; exact h9, fun i hi => ?_⟩, ⟨h11, by rw [e _ (by omega)]; exact h12⟩, ⟨h13, by rw [e _ (by omega)]; exact h14, fun p hp => ?_⟩, ⟨h16, by rw [e _ (by omega)]; exact h17, h18, by rw [e _ (by omega)]; exact h19⟩, ⟨h20, by rw [e _ (by omega)]; exact h21, h22, by rw [e _ (by omega)]; exact h23⟩, ⟨h24, by rw [e _ (by omega)]; exact h25, h26⟩, ⟨h27, by rw [e _ (by omega)]; exact h28⟩, h29, by rw [e _ (by omega)]; exact h30, h31, h32, by rw [e _ (by omega)]; exact h33, by rw [e _ (by omega)]; exact h34⟩
  · rw [e _ (by omega)]; exact h4 p hp
  · rw [e _ (by omega), e _ (by omega)]; exact h7 k hk
  · rw [e _ (by omega), e _ (by omega), e _ (by omega)]; exact h10 i hi
  · rw [e _ (by omega)]; exact h15 p hp
theorem sem_X11_writeStocks {l : Launch} {D : va_G} {A : Nat → Prop} {z : Nat} {t : TT} {I : MI} {R : MR} {J : MI} {B : MR} {x w : Nat} {si : Nat → Nat} {ch : List Nat} {Φ : PP} (hX : XSt x t I R B) (hz : x + 141 ≤ z) (hA : ∀ q, z ≤ q → A q) (hw : I 1111 x = nI w) (hw2 : w ≤ 200) (hok : SiOk x R si ch) (hch : Chain t R (R 402 (x + 127)) ch) (q : Φ none (z + 1) (va_up t z (20, 32)) I R (va_up J z (ch.foldl (rowS si I) (fun _ => 0))) (va_up B (x + 4) (va_up (B (x + 4)) w (some z)))) : Sem l D A 1 1 32 mX11_writeStocks [va_rf (some x)] z t I R J B Φ := by
  refine Sem.run [some (va_rf (some x)), none, none] (by decide) rfl (ent_r (ent_none (ent_none ent_nil))) ?_
  refine V.lt (fun hlt => ?_)
  refine V_const dX11_writeStocks_0 ?_
  refine V_newa w_arr (N := 32) rfl (by decide) (hA _ (Nat.le_refl _)) (by decide) (by decide) dX11_writeStocks_2 ?_
  have hX2 : XSt x (va_up t z (20, 32)) I R B := hX.up hz
  refine V_as1 dX11_writeStocks_4 (by decide) (noL_r _) ?_
  refine V_aload dX11_writeStocks_5 rfl ?_
  refine V_getRs fk_X11_47 dX11_writeStocks_6 hX2.hx hX.lo.1 ?_
  refine V_getR fk_X11_258 dX11_writeStocks_9 hX2.lo.2.1 ?_
  refine V_as2 dX11_writeStocks_12 (by decide) (noL_r _) ?_
  refine V.sub (lsS (lsS (lsS ls0))) (lp_X11_writeStocks hX2 (va_up_self _ _ _) J ch _ _ hok (Chain.up hlt ch _ hch) ?_)
  refine V_aload dX11_writeStocks_48 rfl ?_
  refine V_getRs fk_X11_29 dX11_writeStocks_49 hX2.hx hX.bg.1 ?_
  refine V_aload dX11_writeStocks_52 rfl ?_
  refine V_getIs fk_X11_121 dX11_writeStocks_53 hX2.hx hw ?_
  refine V_aload dX11_writeStocks_56 rfl ?_
  refine V_aasta dX11_writeStocks_57 hX2.bg.2 (va_up_self _ _ _) rfl (by omega) (by decide) ?_
  exact V_vret dX11_writeStocks_58 rfl (by decide) (by decide) q
