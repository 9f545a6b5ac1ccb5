-- THE CLASS'S WEEK; entering lots; buying and sending
theorem fold_keep {st : MI → Nat → MI} {f : Nat} (h : ∀ I a, st I a f = I f) : ∀ (ch : List Nat) (I : MI), (ch.foldl st I) f = I f
  | [], _ => rfl
  | a :: as, I => by rw [List.foldl_cons, fold_keep h as, h]
theorem itr_keep {st : Nat → MI → MI} {f : Nat} (h : ∀ i I, st i I f = I f) : ∀ (n i : Nat) (I : MI), (itr st i n I) f = I f
  | 0, _, _ => rfl
  | n + 1, i, I => by rw [itr, itr_keep h n, h]
theorem stBr_keep {w : Int32} {f : Nat} (hf : f ≠ 307) (I : MI) (a : Nat) : stBr w I a f = I f := by
  unfold stBr
  split
  · rw [up2_ne _ _ _ hf]
  · rfl
theorem stCo_keep {x : Nat} {si bm : Nat → Nat} {w : Int32} {J : MI} {f : Nat} (h1 : f ≠ 306) (h2 : f ≠ 1113) (h3 : f ≠ 311) (I : MI) (a : Nat) : stCo x si bm w J I a f = I f := by
  unfold stCo
  rw [up2_ne _ _ _ h3, up2_ne _ _ _ h2, up2_ne _ _ _ h1]
theorem stE1_keep {x f : Nat} (h1 : f ≠ 900) (h2 : f ≠ 901) (i : Nat) (I : MI) : stE1 x i I f = I f := by
  unfold stE1
  rw [up2_ne _ _ _ h2, up2_ne _ _ _ h1]
theorem stE2_keep {x f : Nat} {si : Nat → Nat} (h1 : f ≠ 900) (h2 : f ≠ 901) (h3 : f ≠ 306) (h4 : f ≠ 705) (h5 : f ≠ 1114) (I : MI) (a : Nat) : stE2 x si I a f = I f := by
  unfold stE2
  split
  · rw [up2_ne _ _ _ h5, up2_ne _ _ _ h4, up2_ne _ _ _ h3, up2_ne _ _ _ h2, up2_ne _ _ _ h1]
  · rfl
theorem stE3_keep {x f : Nat} (h1 : f ≠ 706) (i : Nat) (I : MI) : stE3 x i I f = I f := by
  unfold stE3
  rw [up2_ne _ _ _ h1]
theorem eatX_keep {x f : Nat} {si : Nat → Nat} {ch : List Nat} {I : MI} (h1 : f ≠ 900) (h2 : f ≠ 901) (h3 : f ≠ 306) (h4 : f ≠ 705) (h5 : f ≠ 1114) (h6 : f ≠ 706) : eatX x si ch I f = I f := by
  unfold eatX
  rw [itr_keep (fun i I => stE3_keep h6 i I), fold_keep (fun I a => stE2_keep h1 h2 h3 h4 h5 I a), itr_keep (fun i I => stE1_keep h1 h2 i I)]
theorem XSt.cI {x : Nat} {t : TT} {I I' : MI} {R : MR} {B : MR} (h : XSt x t I R B) (e5 : I' 500 = I 500) (e1 : I' 100 = I 100) (e7 : I' 700 = I 700) : XSt x t I' R B := by
  unfold XSt at h ⊢
  rw [e5, e1, e7]
  exact h
def wkX (x : Nat) (si bm : Nat → Nat) (ch : List Nat) (w : Int32) (J : MI) (I : MI) : MI := up2 (eatX x si ch (ch.foldl (stCo x si bm w J) (ch.foldl (stBr w) I))) 1111 x (w + 1)
theorem wk12_keep {x f : Nat} {si bm : Nat → Nat} {ch : List Nat} {w : Int32} {J I : MI} (h0 : f ≠ 307) (h3 : f ≠ 306) (h4 : f ≠ 1113) (h5 : f ≠ 311) : (ch.foldl (stCo x si bm w J) (ch.foldl (stBr w) I)) f = I f := by
  rw [fold_keep (fun I a => stCo_keep h3 h4 h5 I a), fold_keep (fun I a => stBr_keep h0 I a)]
theorem wk3_keep {x f : Nat} {si bm : Nat → Nat} {ch : List Nat} {w : Int32} {J I : MI} (h0 : f ≠ 307) (h3 : f ≠ 306) (h4 : f ≠ 1113) (h5 : f ≠ 311) (h1 : f ≠ 900) (h2 : f ≠ 901) (h6 : f ≠ 705) (h7 : f ≠ 1114) (h8 : f ≠ 706) : eatX x si ch (ch.foldl (stCo x si bm w J) (ch.foldl (stBr w) I)) f = I f := by
  rw [eatX_keep h1 h2 h3 h6 h7 h8, wk12_keep h0 h3 h4 h5]
theorem sem_X11_week {l : Launch} {D : va_G} {A : Nat → Prop} {z : Nat} {t : TT} {I : MI} {R : MR} {J : MI} {B : MR} {x n w : Nat} {si mi bm : Nat → Nat} {ch : List Nat} {Φ : PP} (hX : XSt x t I R B) (hz : x + 141 ≤ z) (hA : ∀ q, z ≤ q → A q) (hn : I 401 (x + 127) = nI n) (hn2 : n ≤ 300) (hw : I 1111 x = nI w) (hw2 : w ≤ 200) (hok : LotsOk x n t I R B si mi bm ch) (hch : Chain t R (R 402 (x + 127)) ch) (q0 : w = 200 → Φ (some (.int (-1))) z t I R J B) (q : w < 200 → Φ (some (.int (nI (w + 1)))) (z + 1) (va_up t z (20, 32)) (wkX x si bm ch (nI w) J I) R (va_up J z (ch.foldl (rowS si (wkX x si bm ch (nI w) J I)) (fun _ => 0))) (va_up B (x + 4) (va_up (B (x + 4)) (w + 1) (some z)))) : Sem l D A 3 1 32 mX11_week [va_rf (some x)] z t I R J B Φ := by
  refine Sem.run [some (va_rf (some x))] (by decide) rfl (ent_r ent_nil) ?_
  refine V_aload dX11_week_0 rfl ?_
  refine V_getIs fk_X11_121 dX11_week_1 hX.hx hw ?_
  refine V_const dX11_week_4 ?_
  refine V_icmp_lt dX11_week_7 (fun hc7 => ?_) (fun hc7 => ?_)
  · have hlt : w < 200 := (nI_ltI (by omega) (by decide)).mp hc7
    have hw3 : eatX x si ch (ch.foldl (stCo x si bm (nI w) J) (ch.foldl (stBr (nI w)) I)) 1111 x = nI w := by rw [wk3_keep (by decide) (by decide) (by decide) (by decide) (by decide) (by decide) (by decide) (by decide) (by decide)]; exact hw
    have hw4 : (ch.foldl (stBr (nI w)) I) 1111 x = nI w := by rw [fold_keep (fun I a => stBr_keep (by decide) I a)]; exact hw
    have hsi : SiOk x R si ch := fun a ha => (hok a ha).1
    refine V_aload dX11_week_12 rfl ?_
    refine V_invV (As := []) mv_X11_bringIn lk_X11_178 dX11_week_13 (c := 11) (by decide) rfl rfl hX.hx rfl rfl (Nat.le_of_ble_eq_true rfl) ⟨⟨by decide, by decide⟩, by decide, by decide⟩ (sem_X11_bringIn hX.hx hX.lo.1 hX.lo.2.1 hch ?_)
    rw [hw]
    refine V_aload dX11_week_16 rfl ?_
    refine V_invV (As := []) mv_X11_condemnSpoilt lk_X11_181 dX11_week_17 (c := 11) (by decide) rfl rfl hX.hx rfl rfl (Nat.le_of_ble_eq_true rfl) ⟨⟨by decide, by decide⟩, by decide, by decide⟩ (sem_X11_condemnSpoilt (hX.cI (fold_keep (fun I a => stBr_keep (by decide) I a) _ _) (fold_keep (fun I a => stBr_keep (by decide) I a) _ _) (fold_keep (fun I a => stBr_keep (by decide) I a) _ _)) (by rw [fold_keep (fun I a => stBr_keep (by decide) I a)]; exact hn) hn2 (fun a ha => by obtain ⟨g1, g2, g3⟩ := hok a ha; exact ⟨g1, ⟨by rw [fold_keep (fun I a => stBr_keep (by decide) I a)]; exact g2.1, g2.2⟩, g3⟩) hch ?_)
    rw [hw4]
    refine V_aload dX11_week_20 rfl ?_
    refine V_invV (As := []) mv_X11_eat lk_X11_184 dX11_week_21 (c := 11) (by decide) rfl rfl hX.hx rfl rfl (Nat.le_of_ble_eq_true rfl) ⟨⟨by decide, by decide⟩, by decide, by decide⟩ (sem_X11_eat (hX.cI (wk12_keep (by decide) (by decide) (by decide) (by decide)) (wk12_keep (by decide) (by decide) (by decide) (by decide)) (wk12_keep (by decide) (by decide) (by decide) (by decide))) hsi hch ?_)
    refine V_aload dX11_week_24 rfl ?_
    refine V_dupr dX11_week_25 ?_
    refine V_getIs fk_X11_121 dX11_week_26 hX.hx hw3 ?_
    refine V_const dX11_week_29 ?_
    refine V_iadd dX11_week_30 ?_
    refine V_putI fk_X11_121 (Or.inl rfl) rfl rfl dX11_week_31 hX.hx ?_
    refine V_aload dX11_week_34 rfl ?_
    refine V_invV (As := []) mv_X11_writeStocks lk_X11_187 dX11_week_35 (c := 11) (by decide) rfl rfl hX.hx rfl rfl (Nat.le_of_ble_eq_true rfl) ⟨⟨by decide, by decide⟩, by decide, by decide⟩ (sem_X11_writeStocks (w := w + 1) (hX.cI ((up2_ne _ _ _ (by decide)).trans (wk3_keep (by decide) (by decide) (by decide) (by decide) (by decide) (by decide) (by decide) (by decide) (by decide))) ((up2_ne _ _ _ (by decide)).trans (wk3_keep (by decide) (by decide) (by decide) (by decide) (by decide) (by decide) (by decide) (by decide) (by decide))) ((up2_ne _ _ _ (by decide)).trans (wk3_keep (by decide) (by decide) (by decide) (by decide) (by decide) (by decide) (by decide) (by decide) (by decide)))) hz hA (by rw [up2s, nI_1]) (by omega) hsi hch ?_)
    refine V_aload dX11_week_38 rfl ?_
    refine V_getIs fk_X11_121 dX11_week_39 (by rw [va_up_ne _ _ (by omega)]; exact hX.hx) up2s ?_
    exact V_iret dX11_week_42 rfl (by decide) (by decide) (by have h9 := q hlt; unfold wkX at h9; rw [nI_1] at h9 ⊢; exact h9)
  · have hge : w = 200 := by
      rcases Nat.lt_or_ge w 200 with h | h
      · exact absurd (nI_lt h (by decide)) hc7
      · omega
    refine V_const dX11_week_10 ?_
    exact V_iret dX11_week_11 rfl (by decide) (by decide) (q0 hge)
