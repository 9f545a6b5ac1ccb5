-- THE REFERENCE: the week
noncomputable def eat2 (m N p : Nat) (k : Nat) (s : MI × MI) : MI × MI := eatM m N p k s.1 s.2
noncomputable def eat1 (m N : Nat) (p : Nat) (s : MI × MI) : MI × MI := itr (eat2 m N p) 0 4 s
/-- what eating needs and keeps -/
def EatOk (m N : Nat) (I J : MI) : Prop := I 1201 m = nI N ∧ (∀ k, k < 4 → 1 ≤ J (m + 2) k) ∧ ∀ p k, p < 8 → k < 4 → (7 * J (m + 1) p - jmin (7 * J (m + 1) p) (J (m + 19) (4 * p + k))).toInt ≤ 7000
theorem eatS_keepI {m p k N f0 : Nat} (h : f0 ≠ 1203) : ∀ (f : Nat) (nd : Int32) (I J : MI), (eatS m p k N f nd I J).1 f0 = I f0
  | 0, _, _, _ => rfl
  | f + 1, nd, I, J => by
    rw [eatS]
    split
    · rfl
    · split
      · rfl
      · rw [eatS_keepI h f, up2_ne _ _ _ h]
theorem eatS_keepJ {m p k N b : Nat} (h1 : b ≠ m + 9) (h2 : b ≠ m + 19) (h3 : b ≠ m + 20) (h4 : b ≠ m + 21) : ∀ (f : Nat) (nd : Int32) (I J : MI), (eatS m p k N f nd I J).2 b = J b
  | 0, _, _, _ => rfl
  | f + 1, nd, I, J => by
    rw [eatS]
    split
    · rfl
    · split
      · exact up2_ne _ _ _ h3
      · rw [eatS_keepJ h1 h2 h3 h4 f, up2_ne _ _ _ h2, up2_ne _ _ _ h4, up2_ne _ _ _ h1]
/-- the loop leaves the OPEN casks of other places and kinds -/
theorem eatS_open {m p k N j : Nat} (hj : j ≠ 4 * p + k) : ∀ (f : Nat) (nd : Int32) (I J : MI), (eatS m p k N f nd I J).2 (m + 19) j = J (m + 19) j
  | 0, _, _, _ => rfl
  | f + 1, nd, I, J => by
    rw [eatS]
    split
    · rfl
    · split
      · exact up2n (by omega)
      · rw [eatS_open hj f, up2o hj, up2n (by omega), up2n (by omega)]
/-- in between: places below p, and of p kinds below k, have eaten -/
def EatI (m N p k : Nat) (I J : MI) : Prop := I 1201 m = nI N ∧ (∀ k, k < 4 → 1 ≤ J (m + 2) k) ∧ ∀ p' k', p' < 8 → k' < 4 → 4 * p + k ≤ 4 * p' + k' → (7 * J (m + 1) p' - jmin (7 * J (m + 1) p') (J (m + 19) (4 * p' + k'))).toInt ≤ 7000
theorem EatI.step {m N p k : Nat} {I J : MI} (h : EatI m N p k I J) : EatI m N p (k + 1) (eatM m N p k I J).1 (eatM m N p k I J).2 := by
  obtain ⟨h1, h2, h3⟩ := h
  have e2 : (eatM m N p k I J).2 (m + 2) = J (m + 2) := by
    unfold eatM
    rw [eatS_keepJ (by omega) (by omega) (by omega) (by omega), up2_ne _ _ _ (by omega)]
  have e1 : (eatM m N p k I J).2 (m + 1) = J (m + 1) := by
    unfold eatM
    rw [eatS_keepJ (by omega) (by omega) (by omega) (by omega), up2_ne _ _ _ (by omega)]
  refine ⟨?_, fun k hk => by rw [e2]; exact h2 k hk, fun p' k' hp hk hle => ?_⟩
  · unfold eatM
    rw [eatS_keepI (by decide)]
    exact h1
  · have e3 : (eatM m N p k I J).2 (m + 19) (4 * p' + k') = J (m + 19) (4 * p' + k') := by
      unfold eatM
      rw [eatS_open (by omega), up2o (by omega)]
    rw [e1, e3]
    exact h3 p' k' hp hk (by omega)
theorem lp_X12_week3 {l : Launch} {D : va_G} {A : Nat → Prop} {z : Nat} {t : TT} {R : MR} {B : MR} {m N p : Nat} {Φ : PP} (hM : MSt m t R) (hp : p < 8) (hN2 : N ≤ 300) : ∀ (n i : Nat) (s : MI × MI) (hs : EatI m N p i s.1 s.2), i + n = 4 → V l D A (rmm 2 0 0) mX12_week (KS D A 0 0 Φ) 0 0 z t (itr (eat2 m N p) i n s).1 R (itr (eat2 m N p) i n s).2 B 157 [some (va_rf (some m)), some (.int (nI p)), none] [] → V l D A (rmm 2 0 0) mX12_week (KS D A 0 0 Φ) 0 0 z t s.1 R s.2 B 140 [some (va_rf (some m)), some (.int (nI p)), some (.int (nI i))] [] := by
  intro n
  induction n with
  | zero =>
    intro i s hs hin kk
    have hi : i = 4 := by omega
    subst hi
    refine V_iload dX12_week_140 rfl ?_
    refine V_const dX12_week_141 ?_
    refine V_icmp_ge dX12_week_142 (fun hc142 => ?_) (fun hc142 => ?_)
    · exact V.sub (lsS (lsS (lsN ls0))) kk
    · exact absurd (show (4 : Int32) ≤ nI 4 from Int32.le_refl _) hc142
  | succ n ih =>
    intro i s hs hin kk
    refine V_iload dX12_week_140 rfl ?_
    refine V_const dX12_week_141 ?_
    refine V_icmp_ge dX12_week_142 (fun hc142 => ?_) (fun hc142 => ?_)
    · exact absurd hc142 (show ¬ nI 4 ≤ nI i from nI_ge (by omega) (by decide))
    · refine V_aload dX12_week_145 rfl ?_
      refine V_iload dX12_week_146 rfl ?_
      refine V_iload dX12_week_147 rfl ?_
      refine V_invV (As := [_, _]) mv_X12_eat lk_X12_154 dX12_week_148 (c := 12) (by decide) rfl rfl hM.1 rfl rfl (Nat.le_of_ble_eq_true rfl) ⟨⟨by decide, by decide⟩, by decide, by decide⟩ (sem_X12_eat hM hp (by omega) hN2 hs.1 (hs.2.1 i (by omega)) (hs.2.2 p i hp (by omega) (Nat.le_refl _)) ?_)
      refine V_ii2 dX12_week_151 (by decide) (noL_i _) ?_
      refine V_goto dX12_week_154 ?_
      exact V.sub (lsS (lsS (lsE (by rw [nI_1]) ls0))) (ih (i + 1) (eatM m N p i s.1 s.2) hs.step (by omega) kk)
theorem EatI.row {m N p : Nat} : ∀ (n k : Nat) (s : MI × MI), EatI m N p k s.1 s.2 → EatI m N p (k + n) (itr (eat2 m N p) k n s).1 (itr (eat2 m N p) k n s).2
  | 0, _, _, h => h
  | n + 1, k, s, h => by
    rw [itr, show k + (n + 1) = (k + 1) + n by omega]
    exact EatI.row n (k + 1) _ h.step
theorem EatI.next {m N p : Nat} {s : MI × MI} (h : EatI m N p 0 s.1 s.2) : EatI m N (p + 1) 0 (eat1 m N p s).1 (eat1 m N p s).2 := by
  have h4 := EatI.row 4 0 s h
  unfold eat1
  generalize itr (eat2 m N p) 0 4 s = u at h4 ⊢
  exact ⟨h4.1, h4.2.1, fun p' k' hp hk hle => h4.2.2 p' k' hp hk (by omega)⟩
theorem lp_X12_week2 {l : Launch} {D : va_G} {A : Nat → Prop} {z : Nat} {t : TT} {R : MR} {B : MR} {m N : Nat} {Φ : PP} (hM : MSt m t R) (hN2 : N ≤ 300) : ∀ (n i : Nat) (s : MI × MI) (hs : EatI m N i 0 s.1 s.2), i + n = 8 → V l D A (rmm 2 0 0) mX12_week (KS D A 0 0 Φ) 0 0 z t (itr (eat1 m N) i n s).1 R (itr (eat1 m N) i n s).2 B 163 [some (va_rf (some m)), none, none] [] → V l D A (rmm 2 0 0) mX12_week (KS D A 0 0 Φ) 0 0 z t s.1 R s.2 B 132 [some (va_rf (some m)), some (.int (nI i)), none] [] := by
  intro n
  induction n with
  | zero =>
    intro i s hs hin kk
    have hi : i = 8 := by omega
    subst hi
    refine V_iload dX12_week_132 rfl ?_
    refine V_const dX12_week_133 ?_
    refine V_icmp_ge dX12_week_135 (fun hc135 => ?_) (fun hc135 => ?_)
    · exact V.sub (lsS (lsN (lsN ls0))) kk
    · exact absurd (show (8 : Int32) ≤ nI 8 from Int32.le_refl _) hc135
  | succ n ih =>
    intro i s hs hin kk
    refine V_iload dX12_week_132 rfl ?_
    refine V_const dX12_week_133 ?_
    refine V_icmp_ge dX12_week_135 (fun hc135 => ?_) (fun hc135 => ?_)
    · exact absurd hc135 (show ¬ nI 8 ≤ nI i from nI_ge (by omega) (by decide))
    · refine V_const dX12_week_138 ?_
      refine V_is2 dX12_week_139 (by decide) (noL_i _) ?_
      refine V.sub (lsS (lsS (lsS ls0))) (lp_X12_week3 hM (by omega) hN2 4 0 s hs (by omega) ?_)
      refine V_ii1 dX12_week_157 (by decide) (noL_r _) ?_
      refine V_goto dX12_week_160 ?_
      exact V.sub (lsS (lsE (by rw [nI_1]) (lsN ls0))) (ih (i + 1) (eat1 m N i s) hs.next (by omega) kk)
def bk2 (m N w p : Nat) (k : Nat) (J : MI) : MI := up2 J (m + 22) (32 * w + 4 * p + k) (itr (stkM J m (nI p) (nI k)) 0 N 0)
def bk1 (m N w : Nat) (p : Nat) (J : MI) : MI := itr (bk2 m N w p) 0 4 J
theorem lp_X12_week5 {l : Launch} {D : va_G} {A : Nat → Prop} {z : Nat} {t : TT} {I : MI} {R : MR} {B : MR} {m N p w : Nat} {Φ : PP} (hM : MSt m t R) (hp : p < 8) (hN2 : N ≤ 300) (hN : I 1201 m = nI N) (hw : I 1200 m = nI w) (hw2 : w ≤ 200) : ∀ (n i : Nat) (J : MI), i + n = 4 → V l D A (rmm 2 0 0) mX12_week (KS D A 0 0 Φ) 0 0 z t I R (itr (bk2 m N w p) i n J) B 218 [some (va_rf (some m)), some (.int (nI p)), none] [] → V l D A (rmm 2 0 0) mX12_week (KS D A 0 0 Φ) 0 0 z t I R J B 183 [some (va_rf (some m)), some (.int (nI p)), some (.int (nI i))] [] := by
  intro n
  induction n with
  | zero =>
    intro i J hin kk
    have hi : i = 4 := by omega
    subst hi
    refine V_iload dX12_week_183 rfl ?_
    refine V_const dX12_week_184 ?_
    refine V_icmp_ge dX12_week_185 (fun hc185 => ?_) (fun hc185 => ?_)
    · exact V.sub (lsS (lsS (lsN ls0))) kk
    · exact absurd (show (4 : Int32) ≤ nI 4 from Int32.le_refl _) hc185
  | succ n ih =>
    intro i J hin kk
    refine V_iload dX12_week_183 rfl ?_
    refine V_const dX12_week_184 ?_
    refine V_icmp_ge dX12_week_185 (fun hc185 => ?_) (fun hc185 => ?_)
    · exact absurd hc185 (show ¬ nI 4 ≤ nI i from nI_ge (by omega) (by decide))
    · refine V_aload dX12_week_188 rfl ?_
      refine V_getRs fk_X12_73 dX12_week_189 hM.1 hM.a1226.1 ?_
      refine V_const dX12_week_192 ?_
      refine V_aload dX12_week_194 rfl ?_
      refine V_getIs fk_X12_131 dX12_week_195 hM.1 hw ?_
      refine V_imul dX12_week_198 ?_
      refine V_const dX12_week_199 ?_
      refine V_iload dX12_week_200 rfl ?_
      refine V_imul dX12_week_201 ?_
      refine V_iadd dX12_week_202 ?_
      refine V_iload dX12_week_203 rfl ?_
      refine V_iadd dX12_week_204 ?_
      refine V_aload dX12_week_205 rfl ?_
      refine V_iload dX12_week_206 rfl ?_
      refine V_iload dX12_week_207 rfl ?_
      refine V_invV (As := [_, _]) mv_X12_stockOf lk_X12_158 dX12_week_208 (c := 12) (by decide) rfl rfl hM.1 rfl rfl (Nat.le_of_ble_eq_true rfl) ⟨⟨by decide, by decide⟩, by decide, by decide⟩ (sem_X12_stockOf hM hN hN2 ?_)
      refine V_iast dX12_week_211 hM.a1226.2 (i := 32 * w + 4 * p + i) (by rw [show (32 : Int32) = nI 32 from rfl, show (4 : Int32) = nI 4 from rfl, pk_mul, pk_mul, nI_add, nI_add]) (by omega) (by decide) ?_
      refine V_ii2 dX12_week_212 (by decide) (noL_i _) ?_
      refine V_goto dX12_week_215 ?_
      exact V.sub (lsS (lsS (lsE (by rw [nI_1]) ls0))) (ih (i + 1) _ (by omega) kk)
theorem lp_X12_week4 {l : Launch} {D : va_G} {A : Nat → Prop} {z : Nat} {t : TT} {I : MI} {R : MR} {B : MR} {m N w : Nat} {Φ : PP} (hM : MSt m t R) (hN2 : N ≤ 300) (hN : I 1201 m = nI N) (hw : I 1200 m = nI w) (hw2 : w ≤ 200) : ∀ (n i : Nat) (J : MI), i + n = 8 → V l D A (rmm 2 0 0) mX12_week (KS D A 0 0 Φ) 0 0 z t I R (itr (bk1 m N w) i n J) B 224 [some (va_rf (some m)), none, none] [] → V l D A (rmm 2 0 0) mX12_week (KS D A 0 0 Φ) 0 0 z t I R J B 175 [some (va_rf (some m)), some (.int (nI i)), none] [] := by
  intro n
  induction n with
  | zero =>
    intro i J hin kk
    have hi : i = 8 := by omega
    subst hi
    refine V_iload dX12_week_175 rfl ?_
    refine V_const dX12_week_176 ?_
    refine V_icmp_ge dX12_week_178 (fun hc178 => ?_) (fun hc178 => ?_)
    · exact V.sub (lsS (lsN (lsN ls0))) kk
    · exact absurd (show (8 : Int32) ≤ nI 8 from Int32.le_refl _) hc178
  | succ n ih =>
    intro i J hin kk
    refine V_iload dX12_week_175 rfl ?_
    refine V_const dX12_week_176 ?_
    refine V_icmp_ge dX12_week_178 (fun hc178 => ?_) (fun hc178 => ?_)
    · exact absurd hc178 (show ¬ nI 8 ≤ nI i from nI_ge (by omega) (by decide))
    · refine V_const dX12_week_181 ?_
      refine V_is2 dX12_week_182 (by decide) (noL_i _) ?_
      refine V.sub (lsS (lsS (lsS ls0))) (lp_X12_week5 hM (by omega) hN2 hN hw hw2 4 0 J (by omega) ?_)
      refine V_ii1 dX12_week_218 (by decide) (noL_r _) ?_
      refine V_goto dX12_week_221 ?_
      exact V.sub (lsS (lsE (by rw [nI_1]) (lsN ls0))) (ih (i + 1) _ (by omega) kk)
/-- the reference's week, on its ints and arrays -/
noncomputable def wkE (m N : Nat) (kf gf : Nat → Nat) (w : Int32) (I J : MI) : MI × MI := itr (eat1 m N) 0 8 (I, itr (wk1 m kf gf w) 0 N J)
theorem eat2_keepI {m N p f0 : Nat} (h : f0 ≠ 1203) : ∀ (n i : Nat) (s : MI × MI), (itr (eat2 m N p) i n s).1 f0 = s.1 f0
  | 0, _, _ => rfl
  | n + 1, i, s => by rw [itr, eat2_keepI h n]; unfold eat2 eatM; exact eatS_keepI h _ _ _ _
theorem eat1_keepI {m N f0 : Nat} (h : f0 ≠ 1203) : ∀ (n i : Nat) (s : MI × MI), (itr (eat1 m N) i n s).1 f0 = s.1 f0
  | 0, _, _ => rfl
  | n + 1, i, s => by rw [itr, eat1_keepI h n]; unfold eat1; exact eat2_keepI h _ _ _
theorem sem_X12_week {l : Launch} {D : va_G} {A : Nat → Prop} {z : Nat} {t : TT} {I : MI} {R : MR} {J : MI} {B : MR} {m N w : Nat} {kf gf : Nat → Nat} {Φ : PP} (hM : MSt m t R) (hN2 : N ≤ 300) (hw : I 1200 m = nI w) (hw2 : w ≤ 200) (hE : EatI m N 0 0 I (itr (wk1 m kf gf (nI w)) 0 N J)) (hk : ∀ l, l < N → J (m + 7) l = nI (kf l) ∧ kf l < 4) (hg : ∀ l, l < N → J (m + 13) l = nI (gf l) ∧ gf l < 300) (hd : ∀ l, l < N → 0 ≤ (nI w - J (m + 8) l) / 4) (q0 : w = 200 → Φ (some (.int (-1))) z t I R J B) (q : w < 200 → Φ (some (.int (nI (w + 1)))) z t (up2 (wkE m N kf gf (nI w) I J).1 1200 m (nI (w + 1))) R (itr (bk1 m N (w + 1)) 0 8 (wkE m N kf gf (nI w) I J).2) B) : Sem l D A 2 0 0 mX12_week [va_rf (some m)] z t I R J B Φ := by
  refine Sem.run [some (va_rf (some m)), none, none] (by decide) rfl (ent_r (ent_none (ent_none ent_nil))) ?_
  refine V_aload dX12_week_0 rfl ?_
  refine V_getIs fk_X12_131 dX12_week_1 hM.1 hw ?_
  refine V_const dX12_week_4 ?_
  refine V_icmp_ne dX12_week_7 (fun hc7 => ?_) (fun hc7 => ?_)
  · have hlt : w < 200 := by
      rcases Nat.lt_or_ge w 200 with h | h
      · exact h
      · exact absurd (show nI w = nI 200 by rw [show w = 200 by omega]) hc7
    have q := q hlt
    refine V_const dX12_week_12 ?_
    refine V_is1 dX12_week_13 (by decide) (noL_r _) ?_
    refine V.sub (lsS (lsS (lsN ls0))) (lp_X12_week1 (kf := kf) (gf := gf) hM hE.1 hN2 hw hk hg hd N 0 J rfl rfl rfl (by omega) ?_)
    refine V_const dX12_week_130 ?_
    refine V_is1 dX12_week_131 (by decide) (noL_r _) ?_
    refine V.sub (lsS (lsS (lsN ls0))) (lp_X12_week2 hM hN2 8 0 (I, itr (wk1 m kf gf (nI w)) 0 N J) hE (by omega) ?_)
    refine V_aload dX12_week_163 rfl ?_
    refine V_dupr dX12_week_164 ?_
    refine V_getIs fk_X12_131 dX12_week_165 hM.1 ((congrFun (eat1_keepI (by decide) _ _ _) m).trans hw) ?_
    refine V_const dX12_week_168 ?_
    refine V_iadd dX12_week_169 ?_
    refine V_putI fk_X12_131 (Or.inl rfl) rfl rfl dX12_week_170 hM.1 ?_
    refine V_const dX12_week_173 ?_
    refine V_is1 dX12_week_174 (by decide) (noL_r _) ?_
    refine V.sub (lsS (lsS (lsN ls0))) (lp_X12_week4 (N := N) (w := w + 1) hM hN2 ((up2n (by decide)).trans ((congrFun (eat1_keepI (by decide) _ _ _) m).trans hE.1)) (by rw [up2s, nI_1]) (by omega) 8 0 _ (by omega) ?_)
    refine V_aload dX12_week_224 rfl ?_
    refine V_getIs fk_X12_131 dX12_week_225 hM.1 up2s ?_
    exact V_iret dX12_week_228 rfl (by decide) (by decide) (by rw [← nI_1] at q; exact q)
  · have h200 : w = 200 := (nI_eq (by omega) (by decide)).mp (show nI w = nI 200 from hc7)
    refine V_const dX12_week_10 ?_
    exact V_iret dX12_week_11 rfl (by decide) (by decide) (q0 h200)
