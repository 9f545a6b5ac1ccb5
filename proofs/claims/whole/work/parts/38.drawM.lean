-- DRAWING, in the reference
theorem dx_nat (x : Int64) : ∃ a : Nat, a < 2147483648 ∧ (dxS x).toInt = (a : Int) := by
  have h0 : ((Int32.toInt64 33).toUInt64 &&& Int64.toUInt64 63) = (33 : UInt64) := by decide +kernel
  refine ⟨x.toUInt64.toNat >>> 33, ?_, ?_⟩
  · rw [Nat.shiftRight_eq_div_pow]
    have := x.toUInt64.toNat_lt
    omega
  · unfold dxS
    rw [h0]
    have h1 : (x.toUInt64 >>> (33 : UInt64)).toNat = x.toUInt64.toNat >>> 33 := by
      rw [UInt64.toNat_shiftRight]; rfl
    have h2 := x.toUInt64.toNat_lt
    have h3 : x.toUInt64.toNat >>> 33 < 2147483648 := by rw [Nat.shiftRight_eq_div_pow]; omega
    rw [← h1] at h3 ⊢
    generalize x.toUInt64 >>> (33 : UInt64) = u at h3
    show u.toBitVec.toInt = _
    rw [BitVec.toInt_eq_toNat_of_lt (by show 2 * u.toNat < 2 ^ 64; omega)]
    rfl
theorem dx_rem {x y : Int64} {a b : Nat} (hx : x.toInt = (a : Int)) (hy : y.toInt = (b : Int)) (ha : a < 2147483648) (hb : b < 2147483648) (hb0 : 0 < b) : (x - x / y * y).toInt32 = nI (a % b) := by
  apply Int32.toInt_inj.mp
  have hm : a % b < b := Nat.mod_lt _ hb0
  rw [nI_toInt (by omega)]
  have hq : (x / y).toInt = ((a / b : Nat) : Int) := by
    rw [Int64.toInt_div, hx, hy, Int.tdiv_eq_ediv_of_nonneg (by omega)]
    have : (a : Int) / (b : Int) = ((a / b : Nat) : Int) := by omega
    rw [this]
    have h5 := Nat.div_le_self a b
    generalize a / b = c at h5
    apply Int.bmod_eq_of_le <;> omega
  have hdm := Nat.div_add_mod a b
  have hp : a / b * b ≤ a := Nat.div_mul_le_self a b
  have hmul : (x / y * y).toInt = ((a / b * b : Nat) : Int) := by
    rw [Int64.toInt_mul, hq, hy, ← Int.natCast_mul]
    apply Int.bmod_eq_of_le <;> omega
  have hs : (x - x / y * y).toInt = ((a % b : Nat) : Int) := by
    rw [Int64.toInt_sub, hx, hmul]
    have : (a : Int) - ((a / b * b : Nat) : Int) = ((a % b : Nat) : Int) := by
      rw [Nat.mul_comm] at hp ⊢
      omega
    rw [this]
    apply Int.bmod_eq_of_le <;> omega
  rw [Int64.toInt_toInt32, hs]
  apply Int.bmod_eq_of_le <;> omega
/-- the place drawn lies behind those that were drawn -/
theorem dxP_rng {n j : Nat} (h : j < n) (hn : n < 2147483648) (x : Int64) : ∃ p, j ≤ p ∧ p < n ∧ dxP n j x = nI p := by
  obtain ⟨a, ha, hx⟩ := dx_nat x
  have hm : a % (n - j) < n - j := Nat.mod_lt _ (by omega)
  refine ⟨j + a % (n - j), by omega, by omega, ?_⟩
  unfold dxP
  rw [dx_rem hx (b := n - j) (by rw [nI_sub (by omega), Int32.toInt_toInt64, nI_toInt (by omega)]) ha (by omega) (by omega), nI_add]
theorem ln_up {J : MI} {a i j : Nat} (hl : ∀ j, j < i → J a j = nI j) (hj : j < i + 1) : up2 J a i (nI i) a j = nI j := by
  by_cases e : j = i
  · subst e; exact up2s
  · rw [up2o e]; exact hl j (by omega)
def hdM (s f v : Int32) : Int32 := if s = 61 then bI (f = v) else if s = 60 then bI (f < v) else bI (v < f)
theorem hdM_eq {s f v : Int32} (h : isS s) : hdM s f v = hdI s f v := by
  unfold hdM hdI
  rcases h with rfl | rfl | rfl <;> rfl
def MHas (J : MI) (m b : Nat) (acc : List CC) : Prop := ∀ (j : Nat) (c : CC), acc[j]? = some c → J (m + 28) (b + j) = c.1 ∧ J (m + 29) (b + j) = c.2.1 ∧ J (m + 30) (b + j) = c.2.2.1 ∧ J (m + 31) (b + j) = c.2.2.2
theorem lp_X12_dr1 {l : Launch} {D : va_G} {A : Nat → Prop} {z : Nat} {t : TT} {I : MI} {R : MR} {B : MR} {m v K n : Nat} {sd : Int64} {J0 : MI} {Φ : PP} (hM : MSt m t R) (hn : n ≤ 5000) (kk : ∀ J2 : MI, (∀ b, b ≠ m + 32 → J2 b = J0 b) → (∀ i, i < n → J2 (m + 32) i = nI i) → V l D A (rmm 2 0 0) mX12_draw (KS D A 0 0 Φ) 0 0 z t I R J2 B 82 [some (va_rf (some m)), some (.int (nI v)), some (.int (nI K)), some (.long sd), none, some (.int (nI n)), none, none, none, none, none, none, none] []) : ∀ (k i : Nat) (J : MI), i + k = n → (∀ b, b ≠ m + 32 → J b = J0 b) → (∀ j, j < i → J (m + 32) j = nI j) → V l D A (rmm 2 0 0) mX12_draw (KS D A 0 0 Φ) 0 0 z t I R J B 60 [some (va_rf (some m)), some (.int (nI v)), some (.int (nI K)), some (.long sd), none, some (.int (nI n)), some (.int (nI i)), none, none, none, none, none, none] [] := by
  intro k
  induction k with
  | zero =>
    intro i J hin hf hl
    have hi : i = n := by omega
    subst hi
    refine V_iload dX12_draw_60 rfl ?_
    refine V_iload dX12_draw_62 rfl ?_
    refine V_icmp_ge dX12_draw_64 (fun hc64 => ?_) (fun hc64 => ?_)
    · exact V.sub (lsS (lsS (lsS (lsS (lsN (lsS (lsN (lsN (lsN (lsN (lsN (lsN (lsN ls0))))))))))))) (kk J hf hl)
    · exact absurd (Int32.le_refl _) hc64
  | succ k ih =>
    intro i J hin hf hl
    refine V_iload dX12_draw_60 rfl ?_
    refine V_iload dX12_draw_62 rfl ?_
    refine V_icmp_ge dX12_draw_64 (fun hc64 => ?_) (fun hc64 => ?_)
    · exact absurd hc64 (nI_ge (by omega) (by omega))
    · refine V_aload dX12_draw_67 rfl ?_
      refine V_getRs fk_X12_103 dX12_draw_68 hM.1 hM.a1239.1 ?_
      refine V_iload dX12_draw_71 rfl ?_
      refine V_iload dX12_draw_73 rfl ?_
      refine V_iast dX12_draw_75 hM.a1239.2 rfl (by omega) (by decide) ?_
      refine V_ii6 dX12_draw_76 (by decide) (noL_i _) ?_
      refine V_goto dX12_draw_79 ?_
      exact V.sub (lsS (lsS (lsS (lsS (lsN (lsS (lsE (by rw [nI_1]) (lsN (lsN (lsN (lsN (lsN (lsN ls0))))))))))))) (ih (i + 1) _ (by omega) (fun b hb => (up2_ne _ _ _ hb).trans (hf b hb)) (fun j hj => ln_up hl hj))
theorem lp_X12_dr2 {l : Launch} {D : va_G} {A : Nat → Prop} {z : Nat} {t : TT} {I : MI} {R : MR} {B : MR} {m v K n : Nat} {gr b9 : Int32} {J0 : MI} {Φ : PP} (hM : MSt m t R) (hn : n ≤ 5000) (hv : v < 300) (hg : J0 (m + 12) v = gr) (hK : K ≤ n) (kk : ∀ J2 : MI, (∀ b, b ≠ m + 32 → J2 b = J0 b) → V l D A (rmm 2 0 0) mX12_draw (KS D A 0 0 Φ) 0 0 z t I R J2 B 194 [some (va_rf (some m)), some (.int (nI v)), some (.int (nI K)), none, none, some (.int (nI n)), none, none, some (.int b9), none, none, none, none] []) : ∀ (k j : Nat) (x : Int64) (L : Int32 → Int32) (b : Int32) (J : MI), j + k = K → (∀ b, b ≠ m + 32 → J b = J0 b) → (∀ i, j ≤ i → i < n → J (m + 32) i = L (nI i)) → drA gr n k j x L b = b9 → V l D A (rmm 2 0 0) mX12_draw (KS D A 0 0 Φ) 0 0 z t I R J B 91 [some (va_rf (some m)), some (.int (nI v)), some (.int (nI K)), none, none, some (.int (nI n)), some (.long x), none, some (.int b), some (.int (nI j)), none, none, none] [] := by
  intro k
  induction k with
  | zero =>
    intro j x L b J hin hf hl hd
    have hi : j = K := by omega
    subst hi
    have hb : b = b9 := hd
    subst hb
    refine V_iload dX12_draw_91 rfl ?_
    refine V_iload dX12_draw_93 rfl ?_
    refine V_icmp_ge dX12_draw_94 (fun hc94 => ?_) (fun hc94 => ?_)
    · exact V.sub (lsS (lsS (lsS (lsN (lsN (lsS (lsN (lsN (lsS (lsN (lsN (lsN (lsN ls0))))))))))))) (kk J hf)
    · exact absurd (Int32.le_refl _) hc94
  | succ k ih =>
    intro j x L b J hin hf hl hd
    obtain ⟨pn, hp1, hp2, hpe⟩ := dxP_rng (show j < n by omega) (by omega) (dxN x)
    have hvj : up2 (up2 J (m + 32) j (J (m + 32) pn)) (m + 32) pn (J (m + 32) j) (m + 32) j = L (dxP n j (dxN x)) := by
      rw [hpe]
      by_cases e : j = pn
      · subst e; rw [up2s]; exact hl j (by omega) (by omega)
      · rw [up2o e, up2s]; exact hl pn (by omega) (by omega)
    have hvg : up2 (up2 J (m + 32) j (J (m + 32) pn)) (m + 32) pn (J (m + 32) j) (m + 12) v = gr := by rw [up2n (by omega), up2n (by omega), hf _ (by omega)]; exact hg
    refine V_iload dX12_draw_91 rfl ?_
    refine V_iload dX12_draw_93 rfl ?_
    refine V_icmp_ge dX12_draw_94 (fun hc94 => ?_) (fun hc94 => ?_)
    · exact absurd hc94 (nI_ge (by omega) (by omega))
    · refine V_lload dX12_draw_97 rfl ?_
      refine V_ldc2 kk_X12_202 dX12_draw_99 ?_
      refine V_lmul dX12_draw_102 ?_
      refine V_ldc2 kk_X12_204 dX12_draw_103 ?_
      refine V_ladd dX12_draw_106 ?_
      refine V_ls6 dX12_draw_107 (by decide) (noL_i _) ?_
      refine V_iload dX12_draw_109 rfl ?_
      refine V_lload dX12_draw_111 rfl ?_
      refine V_const dX12_draw_113 ?_
      refine V_lushr dX12_draw_115 ?_
      refine V_iload dX12_draw_116 rfl ?_
      refine V_iload dX12_draw_118 rfl ?_
      refine V_isub dX12_draw_120 ?_
      refine V_i2l dX12_draw_121 ?_
      refine V_lrem dX12_draw_122 (nI_ne64 (by omega) (by omega)) ?_
      refine V_l2i dX12_draw_123 ?_
      refine V_iadd dX12_draw_124 ?_
      refine V_is10 dX12_draw_125 (by decide) (noL_i _) ?_
      refine V_aload dX12_draw_127 rfl ?_
      refine V_getRs fk_X12_103 dX12_draw_128 hM.1 hM.a1239.1 ?_
      refine V_iload dX12_draw_131 rfl ?_
      refine V_iald dX12_draw_133 hM.a1239.2 rfl (by omega) (by decide) ?_
      refine V_is11 dX12_draw_134 (by decide) (noL_i _) ?_
      refine V_aload dX12_draw_136 rfl ?_
      refine V_getRs fk_X12_103 dX12_draw_137 hM.1 hM.a1239.1 ?_
      refine V_iload dX12_draw_140 rfl ?_
      refine V_aload dX12_draw_142 rfl ?_
      refine V_getRs fk_X12_103 dX12_draw_143 hM.1 hM.a1239.1 ?_
      refine V_iload dX12_draw_146 rfl ?_
      refine V_iald dX12_draw_148 hM.a1239.2 (i := pn) hpe (by omega) (by decide) ?_
      refine V_iast dX12_draw_149 hM.a1239.2 rfl (by omega) (by decide) ?_
      refine V_aload dX12_draw_150 rfl ?_
      refine V_getRs fk_X12_103 dX12_draw_151 hM.1 hM.a1239.1 ?_
      refine V_iload dX12_draw_154 rfl ?_
      refine V_iload dX12_draw_156 rfl ?_
      refine V_iast dX12_draw_158 hM.a1239.2 (i := pn) hpe (by omega) (by decide) ?_
      refine V_iload dX12_draw_159 rfl ?_
      refine V_aload dX12_draw_161 rfl ?_
      refine V_getRs fk_X12_103 dX12_draw_162 hM.1 hM.a1239.1 ?_
      refine V_iload dX12_draw_165 rfl ?_
      refine V_ialds dX12_draw_167 hM.a1239.2 rfl (by omega) (by decide) hvj ?_
      refine V_const dX12_draw_168 ?_
      refine V_irem dX12_draw_170 (by decide) ?_
      refine V_aload dX12_draw_171 rfl ?_
      refine V_getRs fk_X12_43 dX12_draw_172 hM.1 hM.a1216.1 ?_
      refine V_iload dX12_draw_175 rfl ?_
      refine V_ialds dX12_draw_176 hM.a1216.2 rfl (by omega) (by decide) hvg ?_
      refine V_icmp_ge dX12_draw_177 (fun hc177 => ?_) (fun hc177 => ?_)
      · refine V_const dX12_draw_184 ?_
        refine V_iadd dX12_draw_185 ?_
        refine V_is8 dX12_draw_186 (by decide) noL_n ?_
        refine V_ii9 dX12_draw_188 (by decide) (noL_i _) ?_
        refine V_goto dX12_draw_191 ?_
        refine V.sub (lsS (lsS (lsS (lsN (lsN (lsS (lsS (lsN (lsE (by rw [Int32.add_zero]) (lsE (by rw [nI_1]) (lsN (lsN (lsN ls0))))))))))))) (ih (j + 1) (dxN x) (fun u => if u = dxP n j (dxN x) then L (nI j) else L u) _ _ (by omega) (fun b hb => ((up2_ne _ _ _ hb).trans (up2_ne _ _ _ hb)).trans (hf b hb)) (fun i h1 h2 => ?_) (by rw [drA, if_pos hc177] at hd; exact hd))
        by_cases e : i = pn
        · subst e; rw [up2s, if_pos hpe.symm]; exact hl j (Nat.le_refl _) (by omega)
        · rw [up2o e, up2o (by omega), if_neg (by rw [hpe]; exact fun q => e ((nI_eq (by omega) (by omega)).mp q))]; exact hl i (by omega) h2
      · refine V_const dX12_draw_180 ?_
        refine V_goto dX12_draw_181 ?_
        refine V_iadd dX12_draw_185 ?_
        refine V_is8 dX12_draw_186 (by decide) noL_n ?_
        refine V_ii9 dX12_draw_188 (by decide) (noL_i _) ?_
        refine V_goto dX12_draw_191 ?_
        refine V.sub (lsS (lsS (lsS (lsN (lsN (lsS (lsS (lsN (lsE rfl (lsE (by rw [nI_1]) (lsN (lsN (lsN ls0))))))))))))) (ih (j + 1) (dxN x) (fun u => if u = dxP n j (dxN x) then L (nI j) else L u) _ _ (by omega) (fun b hb => ((up2_ne _ _ _ hb).trans (up2_ne _ _ _ hb)).trans (hf b hb)) (fun i h1 h2 => ?_) (by rw [drA, if_neg hc177] at hd; exact hd))
        by_cases e : i = pn
        · subst e; rw [up2s, if_pos hpe.symm]; exact hl j (Nat.le_refl _) (by omega)
        · rw [up2o e, up2o (by omega), if_neg (by rw [hpe]; exact fun q => e ((nI_eq (by omega) (by omega)).mp q))]; exact hl i (by omega) h2
theorem tl_X12_drA {l : Launch} {D : va_G} {A : Nat → Prop} {z : Nat} {t : TT} {I : MI} {R : MR} {J : MI} {B : MR} {m v K n i : Nat} {b h am : Int32} {Φ : PP} (hM : MSt m t R) (hv : v < 300) (hi : i < 440) (ham : J (m + 31) i = am) (kk : V l D A (rmm 2 0 0) mX12_draw (KS D A 0 0 Φ) 0 0 z t I R (up2 J (m + 17) v (J (m + 17) v + if h = 0 then 0 else am)) B 225 [some (va_rf (some m)), some (.int (nI v)), some (.int (nI K)), none, none, some (.int (nI n)), none, none, some (.int b), some (.int (nI (i + 1))), none, none, none] []) : V l D A (rmm 2 0 0) mX12_draw (KS D A 0 0 Φ) 0 0 z t I R J B 389 [some (va_rf (some m)), some (.int (nI v)), some (.int (nI K)), none, none, some (.int (nI n)), none, none, some (.int b), some (.int (nI i)), none, none, none] [.int h] := by
  refine V_is12 dX12_draw_389 (by decide) noL_n ?_
  refine V_aload dX12_draw_391 rfl ?_
  refine V_getRs fk_X12_58 dX12_draw_392 hM.1 hM.a1221.1 ?_
  refine V_iload dX12_draw_395 rfl ?_
  refine V_dup2ir dX12_draw_396 ?_
  refine V_iald dX12_draw_397 hM.a1221.2 rfl (by omega) (by decide) ?_
  refine V_iload dX12_draw_398 rfl ?_
  refine V_if_eq dX12_draw_400 (fun hc400 => ?_) (fun hc400 => ?_)
  · refine V_const dX12_draw_413 ?_
    refine V_iadd dX12_draw_414 ?_
    refine V_iast dX12_draw_415 hM.a1221.2 rfl (by omega) (by decide) ?_
    refine V_ii9 dX12_draw_416 (by decide) (noL_i _) ?_
    refine V_goto dX12_draw_419 ?_
    exact V.sub (lsS (lsS (lsS (lsN (lsN (lsS (lsN (lsN (lsS (lsE (by rw [nI_1]) (lsN (lsN (lsN ls0))))))))))))) (by rw [if_pos hc400] at kk; exact kk)
  · refine V_aload dX12_draw_403 rfl ?_
    refine V_getRs fk_X12_100 dX12_draw_404 hM.1 hM.a1237.1 ?_
    refine V_iload dX12_draw_407 rfl ?_
    refine V_ialds dX12_draw_409 hM.a1237.2 rfl (by omega) (by decide) ham ?_
    refine V_goto dX12_draw_410 ?_
    refine V_iadd dX12_draw_414 ?_
    refine V_iast dX12_draw_415 hM.a1221.2 rfl (by omega) (by decide) ?_
    refine V_ii9 dX12_draw_416 (by decide) (noL_i _) ?_
    refine V_goto dX12_draw_419 ?_
    exact V.sub (lsS (lsS (lsS (lsN (lsN (lsS (lsN (lsN (lsS (lsE (by rw [nI_1]) (lsN (lsN (lsN ls0))))))))))))) (by rw [if_neg hc400] at kk; exact kk)
theorem tl_X12_drB {l : Launch} {D : va_G} {A : Nat → Prop} {z : Nat} {t : TT} {I : MI} {R : MR} {J : MI} {B : MR} {m v K n i : Nat} {b f sg nu am : Int32} {Φ : PP} (hM : MSt m t R) (hv : v < 300) (hi : i < 440) (hsg : J (m + 29) i = sg) (hnu : J (m + 30) i = nu) (ham : J (m + 31) i = am) (kk : V l D A (rmm 2 0 0) mX12_draw (KS D A 0 0 Φ) 0 0 z t I R (up2 J (m + 17) v (J (m + 17) v + if hdM sg f nu = 0 then 0 else am)) B 225 [some (va_rf (some m)), some (.int (nI v)), some (.int (nI K)), none, none, some (.int (nI n)), none, none, some (.int b), some (.int (nI (i + 1))), none, none, none] []) : V l D A (rmm 2 0 0) mX12_draw (KS D A 0 0 Φ) 0 0 z t I R J B 306 [some (va_rf (some m)), some (.int (nI v)), some (.int (nI K)), none, none, some (.int (nI n)), none, none, some (.int b), some (.int (nI i)), none, none, none] [.int f] := by
  refine V_is11 dX12_draw_306 (by decide) noL_n ?_
  refine V_aload dX12_draw_308 rfl ?_
  refine V_getRs fk_X12_94 dX12_draw_309 hM.1 hM.a1235.1 ?_
  refine V_iload dX12_draw_312 rfl ?_
  refine V_ialds dX12_draw_314 hM.a1235.2 rfl (by omega) (by decide) hsg ?_
  refine V_const dX12_draw_315 ?_
  refine V_icmp_ne dX12_draw_317 (fun hc317 => ?_) (fun hc317 => ?_)
  · refine V_aload dX12_draw_340 rfl ?_
    refine V_getRs fk_X12_94 dX12_draw_341 hM.1 hM.a1235.1 ?_
    refine V_iload dX12_draw_344 rfl ?_
    refine V_ialds dX12_draw_346 hM.a1235.2 rfl (by omega) (by decide) hsg ?_
    refine V_const dX12_draw_347 ?_
    refine V_icmp_ne dX12_draw_349 (fun hc349 => ?_) (fun hc349 => ?_)
    · refine V_iload dX12_draw_372 rfl ?_
      refine V_aload dX12_draw_374 rfl ?_
      refine V_getRs fk_X12_97 dX12_draw_375 hM.1 hM.a1236.1 ?_
      refine V_iload dX12_draw_378 rfl ?_
      refine V_ialds dX12_draw_380 hM.a1236.2 rfl (by omega) (by decide) hnu ?_
      refine V_icmp_le dX12_draw_381 (fun hc381 => ?_) (fun hc381 => ?_)
      · refine V_const dX12_draw_388 ?_
        exact V.sub (lsS (lsS (lsS (lsN (lsN (lsS (lsN (lsN (lsS (lsS (lsN (lsN (lsN ls0))))))))))))) (tl_X12_drA hM hv hi ham (by rw [show hdM sg f nu = _ from (by unfold hdM; rw [if_neg hc317, if_neg hc349, bI_f (by rw [i_lt]; rw [i_le] at hc381; omega)])] at kk; exact kk))
      · refine V_const dX12_draw_384 ?_
        refine V_goto dX12_draw_385 ?_
        exact V.sub (lsS (lsS (lsS (lsN (lsN (lsS (lsN (lsN (lsS (lsS (lsN (lsN (lsN ls0))))))))))))) (tl_X12_drA hM hv hi ham (by rw [show hdM sg f nu = _ from (by unfold hdM; rw [if_neg hc317, if_neg hc349, bI_t (by rw [i_lt]; rw [i_le] at hc381; omega)])] at kk; exact kk))
    · refine V_iload dX12_draw_352 rfl ?_
      refine V_aload dX12_draw_354 rfl ?_
      refine V_getRs fk_X12_97 dX12_draw_355 hM.1 hM.a1236.1 ?_
      refine V_iload dX12_draw_358 rfl ?_
      refine V_ialds dX12_draw_360 hM.a1236.2 rfl (by omega) (by decide) hnu ?_
      refine V_icmp_ge dX12_draw_361 (fun hc361 => ?_) (fun hc361 => ?_)
      · refine V_const dX12_draw_368 ?_
        refine V_goto dX12_draw_369 ?_
        exact V.sub (lsS (lsS (lsS (lsN (lsN (lsS (lsN (lsN (lsS (lsS (lsN (lsN (lsN ls0))))))))))))) (tl_X12_drA hM hv hi ham (by rw [show hdM sg f nu = _ from (by unfold hdM; rw [if_neg hc317, if_pos hc349, bI_f (by rw [i_lt]; rw [i_le] at hc361; omega)])] at kk; exact kk))
      · refine V_const dX12_draw_364 ?_
        refine V_goto dX12_draw_365 ?_
        exact V.sub (lsS (lsS (lsS (lsN (lsN (lsS (lsN (lsN (lsS (lsS (lsN (lsN (lsN ls0))))))))))))) (tl_X12_drA hM hv hi ham (by rw [show hdM sg f nu = _ from (by unfold hdM; rw [if_neg hc317, if_pos hc349, bI_t (by rw [i_lt]; rw [i_le] at hc361; omega)])] at kk; exact kk))
  · refine V_iload dX12_draw_320 rfl ?_
    refine V_aload dX12_draw_322 rfl ?_
    refine V_getRs fk_X12_97 dX12_draw_323 hM.1 hM.a1236.1 ?_
    refine V_iload dX12_draw_326 rfl ?_
    refine V_ialds dX12_draw_328 hM.a1236.2 rfl (by omega) (by decide) hnu ?_
    refine V_icmp_ne dX12_draw_329 (fun hc329 => ?_) (fun hc329 => ?_)
    · refine V_const dX12_draw_336 ?_
      refine V_goto dX12_draw_337 ?_
      exact V.sub (lsS (lsS (lsS (lsN (lsN (lsS (lsN (lsN (lsS (lsS (lsN (lsN (lsN ls0))))))))))))) (tl_X12_drA hM hv hi ham (by rw [show hdM sg f nu = _ from (by unfold hdM; rw [if_pos hc317, bI_f hc329])] at kk; exact kk))
    · refine V_const dX12_draw_332 ?_
      refine V_goto dX12_draw_333 ?_
      exact V.sub (lsS (lsS (lsS (lsN (lsN (lsS (lsN (lsN (lsS (lsS (lsN (lsN (lsN ls0))))))))))))) (tl_X12_drA hM hv hi ham (by rw [show hdM sg f nu = _ from (by unfold hdM; rw [if_pos hc317, bI_t hc329])] at kk; exact kk))
theorem lp_X12_dr3 {l : Launch} {D : va_G} {A : Nat → Prop} {z : Nat} {t : TT} {I : MI} {R : MR} {B : MR} {m v K n mk : Nat} {b g : Int32} {acc : List CC} {J0 : MI} {Φ : PP} (hM : MSt m t R) (hv : v < 300) (hmk : J0 (m + 6) v = nI mk) (hmk2 : mk < 10) (hcm : J0 (m + 27) mk = nI acc.length) (hc34 : acc.length ≤ 34) (hh : MHas J0 m (40 * mk) acc) (hsg : ∀ c ∈ acc, isS c.2.1) (hg : I 1200 m - J0 (m + 8) v = g) : ∀ (rest pre : List CC) (J : MI), pre ++ rest = acc → (∀ b i, ¬ (b = m + 17 ∧ i = v) → J b i = J0 b i) → Φ (some (.int b)) z t I R (up2 J (m + 17) v (J (m + 17) v + suF b (nI K) (nI n) g rest)) B → V l D A (rmm 2 0 0) mX12_draw (KS D A 0 0 Φ) 0 0 z t I R J B 225 [some (va_rf (some m)), some (.int (nI v)), some (.int (nI K)), none, none, some (.int (nI n)), none, none, some (.int b), some (.int (nI (40 * mk + pre.length))), none, none, none] [] := by
  intro rest
  induction rest with
  | nil =>
    intro pre J hp hf q
    have hi : acc.length = pre.length := by rw [← hp, List.append_nil]
    have f6 : J (m + 6) v = nI mk := (hf _ _ (by omega)).trans hmk
    have f27 : J (m + 27) mk = nI acc.length := (hf _ _ (by omega)).trans hcm
    refine V_iload dX12_draw_225 rfl ?_
    refine V_const dX12_draw_227 ?_
    refine V_aload dX12_draw_229 rfl ?_
    refine V_getRs fk_X12_25 dX12_draw_230 hM.1 hM.a1210.1 ?_
    refine V_iload dX12_draw_233 rfl ?_
    refine V_ialds dX12_draw_234 hM.a1210.2 rfl (by omega) (by decide) f6 ?_
    refine V_imul dX12_draw_235 ?_
    refine V_aload dX12_draw_236 rfl ?_
    refine V_getRs fk_X12_88 dX12_draw_237 hM.1 hM.a1233.1 ?_
    refine V_aload dX12_draw_240 rfl ?_
    refine V_getRs fk_X12_25 dX12_draw_241 hM.1 hM.a1210.1 ?_
    refine V_iload dX12_draw_244 rfl ?_
    refine V_ialds dX12_draw_245 hM.a1210.2 rfl (by omega) (by decide) f6 ?_
    refine V_ialds dX12_draw_246 hM.a1233.2 rfl hmk2 (by decide) f27 ?_
    refine V_iadd dX12_draw_247 ?_
    rw [show (40 : Int32) = nI 40 from rfl, pk_mul, nI_add]
    refine V_icmp_ge dX12_draw_248 (fun hc248 => ?_) (fun hc248 => ?_)
    · refine V_iload dX12_draw_422 rfl ?_
      exact V_iret dX12_draw_424 rfl (by decide) (by decide) (by rw [suF, Int32.add_zero, up2_same] at q; exact q)
    · exact absurd (by rw [hi]; exact Int32.le_refl _) hc248
  | cons c cs ih =>
    intro pre J hp hf q
    have hlt : pre.length < acc.length := by rw [← hp, List.length_append, List.length_cons]; omega
    have f6 : J (m + 6) v = nI mk := (hf _ _ (by omega)).trans hmk
    have f27 : J (m + 27) mk = nI acc.length := (hf _ _ (by omega)).trans hcm
    have f8 : J (m + 8) v = J0 (m + 8) v := hf _ _ (by omega)
    obtain ⟨h0, h1, h2, h3⟩ := hh pre.length c (by rw [← hp, List.getElem?_append_right (Nat.le_refl _), Nat.sub_self]; rfl)
    rw [← hf _ _ (by omega)] at h0 h1 h2 h3
    have hS : isS c.2.1 := hsg c (by rw [← hp]; exact List.mem_append_right _ List.mem_cons_self)
    have go : ∀ f : Int32, f = factS c.1 b (nI K) (nI n) g → V l D A (rmm 2 0 0) mX12_draw (KS D A 0 0 Φ) 0 0 z t I R J B 306 [some (va_rf (some m)), some (.int (nI v)), some (.int (nI K)), none, none, some (.int (nI n)), none, none, some (.int b), some (.int (nI (40 * mk + pre.length))), none, none, none] [.int f] := by
      intro f hfe
      refine tl_X12_drB hM hv (by omega) h1 h2 h3 ?_
      rw [show 40 * mk + pre.length + 1 = 40 * mk + (pre ++ [c]).length by rw [List.length_append]; simp only [List.length_cons, List.length_nil]; omega]
      refine ih (pre ++ [c]) _ (by rw [List.append_assoc]; exact hp) (fun b2 i2 hb => (up2_at hb).trans (hf _ _ hb)) ?_
      rw [up2_uu, up2s, hdM_eq hS, hfe, Int32.add_assoc]
      exact q
    refine V_iload dX12_draw_225 rfl ?_
    refine V_const dX12_draw_227 ?_
    refine V_aload dX12_draw_229 rfl ?_
    refine V_getRs fk_X12_25 dX12_draw_230 hM.1 hM.a1210.1 ?_
    refine V_iload dX12_draw_233 rfl ?_
    refine V_ialds dX12_draw_234 hM.a1210.2 rfl (by omega) (by decide) f6 ?_
    refine V_imul dX12_draw_235 ?_
    refine V_aload dX12_draw_236 rfl ?_
    refine V_getRs fk_X12_88 dX12_draw_237 hM.1 hM.a1233.1 ?_
    refine V_aload dX12_draw_240 rfl ?_
    refine V_getRs fk_X12_25 dX12_draw_241 hM.1 hM.a1210.1 ?_
    refine V_iload dX12_draw_244 rfl ?_
    refine V_ialds dX12_draw_245 hM.a1210.2 rfl (by omega) (by decide) f6 ?_
    refine V_ialds dX12_draw_246 hM.a1233.2 rfl hmk2 (by decide) f27 ?_
    refine V_iadd dX12_draw_247 ?_
    rw [show (40 : Int32) = nI 40 from rfl, pk_mul, nI_add]
    refine V_icmp_ge dX12_draw_248 (fun hc248 => ?_) (fun hc248 => ?_)
    · exact absurd hc248 (nI_ge (by omega) (by omega))
    · refine V_aload dX12_draw_251 rfl ?_
      refine V_getRs fk_X12_91 dX12_draw_252 hM.1 hM.a1234.1 ?_
      refine V_iload dX12_draw_255 rfl ?_
      refine V_ialds dX12_draw_257 hM.a1234.2 rfl (by omega) (by decide) h0 ?_
      refine V_is10 dX12_draw_258 (by decide) (noL_i _) ?_
      refine V_iload dX12_draw_260 rfl ?_
      refine V_const dX12_draw_262 ?_
      refine V_icmp_ne dX12_draw_264 (fun hc264 => ?_) (fun hc264 => ?_)
      · refine V_iload dX12_draw_272 rfl ?_
        refine V_const dX12_draw_274 ?_
        refine V_icmp_ne dX12_draw_276 (fun hc276 => ?_) (fun hc276 => ?_)
        · refine V_iload dX12_draw_283 rfl ?_
          refine V_const dX12_draw_285 ?_
          refine V_icmp_ne dX12_draw_287 (fun hc287 => ?_) (fun hc287 => ?_)
          · refine V_aload dX12_draw_295 rfl ?_
            refine V_getI fk_X12_131 dX12_draw_296 hM.1 ?_
            refine V_aload dX12_draw_299 rfl ?_
            refine V_getRs fk_X12_31 dX12_draw_300 hM.1 hM.a1212.1 ?_
            refine V_iload dX12_draw_303 rfl ?_
            refine V_ialds dX12_draw_304 hM.a1212.2 rfl (by omega) (by decide) f8 ?_
            refine V_isub dX12_draw_305 ?_
            exact V.sub (lsS (lsS (lsS (lsN (lsN (lsS (lsN (lsN (lsS (lsS (lsN (lsN (lsN ls0))))))))))))) (go _ (by unfold factS; rw [if_neg hc264, if_neg hc276, if_neg hc287, ← hg]))
          · refine V_iload dX12_draw_290 rfl ?_
            refine V_goto dX12_draw_292 ?_
            exact V.sub (lsS (lsS (lsS (lsN (lsN (lsS (lsN (lsN (lsS (lsS (lsN (lsN (lsN ls0))))))))))))) (go _ (by unfold factS; rw [if_neg hc264, if_neg hc276, if_pos hc287]))
        · refine V_iload dX12_draw_279 rfl ?_
          refine V_goto dX12_draw_280 ?_
          exact V.sub (lsS (lsS (lsS (lsN (lsN (lsS (lsN (lsN (lsS (lsS (lsN (lsN (lsN ls0))))))))))))) (go _ (by unfold factS; rw [if_neg hc264, if_pos hc276]))
      · refine V_iload dX12_draw_267 rfl ?_
        refine V_goto dX12_draw_269 ?_
        exact V.sub (lsS (lsS (lsS (lsN (lsN (lsS (lsN (lsN (lsS (lsS (lsN (lsN (lsN ls0))))))))))))) (go _ (by unfold factS; rw [if_pos hc264]))
def drM (J : MI) (m v nf : Nat) (k : Int32) : Prop := J (m + 13) v = nI v ∧ J (m + 16) v = -1 ∧ 0 ≤ k ∧ k ≤ jmin 40 (nI nf)
def CtM (m : Nat) (J : MI) (cc : Nat → List CC) : Prop := ∀ j, j < 10 → J (m + 27) j = nI (cc j).length ∧ (cc j).length ≤ 34 ∧ MHas J m (40 * j) (cc j) ∧ ∀ c ∈ cc j, isS c.2.1
theorem MHas.of {J J2 : MI} {m b : Nat} {acc : List CC} (e0 : J2 (m + 28) = J (m + 28)) (e1 : J2 (m + 29) = J (m + 29)) (e2 : J2 (m + 30) = J (m + 30)) (e3 : J2 (m + 31) = J (m + 31)) (h : MHas J m b acc) : MHas J2 m b acc := by
  intro j c hj
  rw [e0, e1, e2, e3]
  exact h j c hj
theorem sem_X12_draw {l : Launch} {D : va_G} {A : Nat → Prop} {z : Nat} {t : TT} {I : MI} {R : MR} {J : MI} {B : MR} {m n : Nat} {lt k : Int32} {sd : Int64} {nf mk : Nat → Nat} {cc : Nat → List CC} {Φ : PP} (hM : MSt m t R) (hn : I 1201 m = nI n) (hn2 : n ≤ 300) (hla : ∀ i, i < n → (J (m + 14) i = nI (nf i) ∧ nf i ≤ 5000) ∧ J (m + 6) i = nI (mk i) ∧ mk i < 10) (hct : CtM m J cc) (q0 : (∀ v, v < n → lt = nI v → ¬ drM J m v (nf v) k) → Φ (some (.int (-1))) z t I R J B) (q : ∀ v K, v < n → lt = nI v → k = nI K → K ≤ 40 → K ≤ nf v → drM J m v (nf v) k → ∀ J2 : MI, (∀ b, b ≠ m + 32 → J2 b = J b) → Φ (some (.int (drA (J (m + 12) v) (nf v) K 0 sd id 0))) z t I R (up2 (up2 J2 (m + 16) v (drA (J (m + 12) v) (nf v) K 0 sd id 0)) (m + 17) v (J (m + 15) v + suF (drA (J (m + 12) v) (nf v) K 0 sd id 0) (nI K) (nI (nf v)) (I 1200 m - J (m + 8) v) (cc (mk v)))) B) : Sem l D A 2 0 0 mX12_draw [va_rf (some m), .int lt, .int k, .long sd] z t I R J B Φ := by
  refine Sem.run [some (va_rf (some m)), some (.int lt), some (.int k), some (.long sd), none, none, none, none, none, none, none, none, none] (by decide) rfl (ent_r (ent_i (ent_i (ent_l (ent_none (ent_none (ent_none (ent_none (ent_none (ent_none (ent_none (ent_none ent_nil)))))))))))) ?_
  refine V_aload dX12_draw_0 rfl ?_
  refine V_iload dX12_draw_1 rfl ?_
  refine V_invV (As := [_]) mv_X12_isLot lk_X12_141 dX12_draw_2 (c := 12) (by decide) rfl rfl hM.1 rfl rfl (Nat.le_of_ble_eq_true rfl) ⟨⟨by decide, by decide⟩, by decide, by decide⟩ (sem_X12_isLot hM ?_)
  refine V_if_eq dX12_draw_5 (fun hc5 => ?_) (fun hc5 => ?_)
  · rw [bI_0, hn] at hc5
    refine V_const dX12_draw_47 ?_
    exact V_iret dX12_draw_48 rfl (by decide) (by decide) (q0 (fun v hv e => absurd e (i_out (i_pred (by omega)) (by omega) hc5 v hv)))
  · rw [bI_n0, hn] at hc5
    obtain ⟨v, hv, hvl⟩ := i_rng (i_pred (by omega)) hc5
    subst hvl
    obtain ⟨⟨hnf, hnf2⟩, hmk, hmk2⟩ := hla v hv
    have noq : ¬ drM J m v (nf v) k → Φ (some (.int (-1))) z t I R J B := fun h => q0 (fun v2 hv2 e => by obtain rfl := (nI_eq (by omega) (by omega)).mp e; exact h)
    refine V_aload dX12_draw_8 rfl ?_
    refine V_getRs fk_X12_46 dX12_draw_9 hM.1 hM.a1217.1 ?_
    refine V_iload dX12_draw_12 rfl ?_
    refine V_iald dX12_draw_13 hM.a1217.2 rfl (by omega) (by decide) ?_
    refine V_iload dX12_draw_14 rfl ?_
    refine V_icmp_ne dX12_draw_15 (fun hc15 => ?_) (fun hc15 => ?_)
    · refine V_const dX12_draw_47 ?_
      exact V_iret dX12_draw_48 rfl (by decide) (by decide) (noq (fun h => hc15 h.1))
    · refine V_aload dX12_draw_18 rfl ?_
      refine V_getRs fk_X12_55 dX12_draw_19 hM.1 hM.a1220.1 ?_
      refine V_iload dX12_draw_22 rfl ?_
      refine V_iald dX12_draw_23 hM.a1220.2 rfl (by omega) (by decide) ?_
      refine V_const dX12_draw_24 ?_
      refine V_icmp_ne dX12_draw_25 (fun hc25 => ?_) (fun hc25 => ?_)
      · refine V_const dX12_draw_47 ?_
        exact V_iret dX12_draw_48 rfl (by decide) (by decide) (noq (fun h => hc25 h.2.1))
      · refine V_iload dX12_draw_28 rfl ?_
        refine V_const dX12_draw_29 ?_
        refine V_const dX12_draw_30 ?_
        refine V_aload dX12_draw_32 rfl ?_
        refine V_getRs fk_X12_49 dX12_draw_33 hM.1 hM.a1218.1 ?_
        refine V_iload dX12_draw_36 rfl ?_
        refine V_ialds dX12_draw_37 hM.a1218.2 rfl (by omega) (by decide) hnf ?_
        refine V_jmin dX12_draw_38 lk_X12_144 (by decide) (by decide) (by decide) (by decide) (Nat.le_of_ble_eq_true rfl) ?_
        refine V_invS (As := [_, _, _]) ms_X12_in lk_X12_115 dX12_draw_41 rfl rfl rfl (Nat.le_of_ble_eq_true rfl) ⟨⟨by decide, by decide⟩, by decide, by decide⟩ (sem_X12_in ?_)
        refine V_if_ne dX12_draw_44 (fun hc44 => ?_) (fun hc44 => ?_)
        · rw [bI_n0] at hc44
          obtain ⟨K, hK, hK2, hK3⟩ := dr_k hnf2 hc44
          subst hK
          refine V_aload dX12_draw_49 rfl ?_
          refine V_getRs fk_X12_49 dX12_draw_50 hM.1 hM.a1218.1 ?_
          refine V_iload dX12_draw_53 rfl ?_
          refine V_ialds dX12_draw_54 hM.a1218.2 rfl (by omega) (by decide) hnf ?_
          refine V_is5 dX12_draw_55 (by decide) noL_n ?_
          refine V_const dX12_draw_57 ?_
          refine V_is6 dX12_draw_58 (by decide) (noL_i _) ?_
          have qq := q v K hv rfl rfl hK2 hK3 ⟨hc15, hc25, hc44⟩
          refine V.sub (lsS (lsS (lsS (lsS (lsN (lsS (lsS (lsN (lsN (lsN (lsN (lsN (lsN ls0))))))))))))) (lp_X12_dr1 (J0 := J) hM hnf2 (fun J2 hf hl => ?_) (nf v) 0 J (by omega) (fun _ _ => rfl) (fun j hj => absurd hj (Nat.not_lt_zero j)))
          refine V_lload dX12_draw_82 rfl ?_
          refine V_ls6 dX12_draw_83 (by decide) (noL_i _) ?_
          refine V_const dX12_draw_85 ?_
          refine V_is8 dX12_draw_86 (by decide) noL_n ?_
          refine V_const dX12_draw_88 ?_
          refine V_is9 dX12_draw_89 (by decide) (noL_i _) ?_
          refine V.sub (lsS (lsS (lsS (lsN (lsN (lsS (lsS (lsN (lsS (lsS (lsN (lsN (lsN ls0))))))))))))) (lp_X12_dr2 (J0 := J2) hM hnf2 (by omega) (congrFun (hf _ (by omega)) v) hK3 (fun J3 hf3 => ?_) K 0 sd id 0 J2 (by omega) (fun _ _ => rfl) (fun i _ hi => hl i hi) rfl)
          have ff : ∀ b, b ≠ m + 32 → J3 b = J b := fun b hb => (hf3 b hb).trans (hf b hb)
          refine V_aload dX12_draw_194 rfl ?_
          refine V_getRs fk_X12_55 dX12_draw_195 hM.1 hM.a1220.1 ?_
          refine V_iload dX12_draw_198 rfl ?_
          refine V_iload dX12_draw_199 rfl ?_
          refine V_iast dX12_draw_201 hM.a1220.2 rfl (by omega) (by decide) ?_
          refine V_aload dX12_draw_202 rfl ?_
          refine V_getRs fk_X12_58 dX12_draw_203 hM.1 hM.a1221.1 ?_
          refine V_iload dX12_draw_206 rfl ?_
          refine V_aload dX12_draw_207 rfl ?_
          refine V_getRs fk_X12_52 dX12_draw_208 hM.1 hM.a1219.1 ?_
          refine V_iload dX12_draw_211 rfl ?_
          refine V_ialds dX12_draw_212 hM.a1219.2 rfl (by omega) (by decide) ((up2n (by omega)).trans (congrFun (ff _ (by omega)) v)) ?_
          refine V_iast dX12_draw_213 hM.a1221.2 rfl (by omega) (by decide) ?_
          refine V_const dX12_draw_214 ?_
          refine V_aload dX12_draw_216 rfl ?_
          refine V_getRs fk_X12_25 dX12_draw_217 hM.1 hM.a1210.1 ?_
          refine V_iload dX12_draw_220 rfl ?_
          refine V_ialds dX12_draw_221 hM.a1210.2 rfl (by omega) (by decide) ((up2n (by omega)).trans ((up2n (by omega)).trans ((congrFun (ff _ (by omega)) v).trans hmk))) ?_
          refine V_imul dX12_draw_222 ?_
          rw [show (40 : Int32) = nI 40 from rfl, pk_mul]
          refine V_is9 dX12_draw_223 (by decide) (noL_i _) ?_
          obtain ⟨k1, k2, k3, k4⟩ := hct (mk v) hmk2
          refine V.sub (lsS (lsS (lsS (lsN (lsN (lsS (lsN (lsN (lsS (lsS (lsN (lsN (lsN ls0))))))))))))) (lp_X12_dr3 (mk := mk v) (J0 := up2 (up2 J3 (m + 16) v (drA (J (m + 12) v) (nf v) K 0 sd id 0)) (m + 17) v (J (m + 15) v)) hM (by omega) ((up2n (by omega)).trans ((up2n (by omega)).trans ((congrFun (ff _ (by omega)) v).trans hmk))) hmk2 ((up2n (by omega)).trans ((up2n (by omega)).trans ((congrFun (ff _ (by omega)) _).trans k1))) k2 (MHas.of (by rw [up2_ne _ _ _ (by omega), up2_ne _ _ _ (by omega), ff _ (by omega)]) (by rw [up2_ne _ _ _ (by omega), up2_ne _ _ _ (by omega), ff _ (by omega)]) (by rw [up2_ne _ _ _ (by omega), up2_ne _ _ _ (by omega), ff _ (by omega)]) (by rw [up2_ne _ _ _ (by omega), up2_ne _ _ _ (by omega), ff _ (by omega)]) k3) k4 (by rw [up2n (by omega), up2n (by omega), ff _ (by omega)]) (cc (mk v)) [] _ rfl (fun _ _ _ => rfl) ?_)
          rw [up2_uu, up2s]
          exact qq J3 ff
        · rw [bI_0] at hc44
          refine V_const dX12_draw_47 ?_
          exact V_iret dX12_draw_48 rfl (by decide) (by decide) (noq (fun h => hc44 h.2.2))
