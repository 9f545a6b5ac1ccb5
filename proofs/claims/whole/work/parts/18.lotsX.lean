-- ENTERING LOTS; BUYING AND SENDING, in the class
def xfin (f : Nat) : Bool := !(f == 313 || f == 402 || f == 707 || f == 1109 || f == 300 || f == 801)
theorem XSt.mono {x : Nat} {t t' : TT} {I I' : MI} {R R' : MR} {B B' : MR} (h : XSt x t I R B) (ht : ∀ a, a < x + 141 → t' a = t a) (hI : ∀ f a, a < x + 141 → f = 500 ∨ f = 100 ∨ f = 700 → I' f a = I f a) (hR : ∀ f a, a < x + 141 → xfin f = true → R' f a = R f a) (hB : ∀ a i, a < x + 141 → a ≠ x + 4 → a ≠ x + 128 → a ≠ x + 132 → B' a i = B a i) : XSt x t' I' R' B' := by
  unfold XSt at h ⊢
  simp only [xPl, xSo, xKd] at h ⊢
  obtain ⟨h1, ⟨h2, h3, h4⟩, ⟨h5, h6, h7⟩, ⟨h8, h9, h10⟩, ⟨h11, h12⟩, ⟨h13, h14, h15⟩, ⟨h16, h17, h18, h19⟩, ⟨h20, h21, h22, h23⟩, ⟨h24, h25, h26⟩, ⟨h27, h28⟩, h29, h30, h31, h32, h33, h34⟩ := h
  have T : ∀ {a : Nat} {τ : Nat × Nat}, t a = τ → a < x + 141 → t' a = τ := fun h1 h2 => (ht _ h2).trans h1
  have T1 : ∀ {a c : Nat}, (t a).1 = c → a < x + 141 → (t' a).1 = c := fun h1 h2 => by rw [ht _ h2]; exact h1
  have Q : ∀ {f a : Nat} {r : Option Nat}, R f a = r → a < x + 141 → xfin f = true → R' f a = r := fun h1 h2 h3 => (hR _ _ h2 h3).trans h1
  refine ⟨T1 h1 (by omega), ⟨Q h2 (by omega) rfl, T h3 (by omega), fun p hp => ?_⟩, ⟨Q h5 (by omega) rfl, T h6 (by omega), fun k hk => ?_⟩, ⟨Q h8 (by omega) rfl, T h9 (by omega), fun i hi => ?_⟩, ⟨Q h11 (by omega) rfl, T h12 (by omega)⟩, ⟨Q h13 (by omega) rfl, T h14 (by omega), fun p hp => ?_⟩, ⟨Q h16 (by omega) rfl, T1 h17 (by omega), Q h18 (by omega) rfl, T h19 (by omega)⟩, ⟨Q h20 (by omega) rfl, T1 h21 (by omega), Q h22 (by omega) rfl, T h23 (by omega)⟩, ⟨Q h24 (by omega) rfl, T1 h25 (by omega), Q h26 (by omega) rfl⟩, ⟨Q h27 (by omega) rfl, T h28 (by omega)⟩, Q h29 (by omega) rfl, T1 h30 (by omega), Q h31 (by omega) rfl, Q h32 (by omega) rfl, T h33 (by omega), T h34 (by omega)⟩
  · obtain ⟨g1, g2, g3⟩ := h4 p hp
    exact ⟨(hB _ _ (by omega) (by omega) (by omega) (by omega)).trans g1, T1 g2 (by omega), (hI _ _ (by omega) (by omega)).trans g3⟩
  · obtain ⟨g1, g2, g3, g4, g5⟩ := h7 k hk
    exact ⟨(hB _ _ (by omega) (by omega) (by omega) (by omega)).trans g1, T1 g2 (by omega), (hI _ _ (by omega) (by omega)).trans g3, Q g4 (by omega) rfl, T g5 (by omega)⟩
  · obtain ⟨g1, g2, g3, g4, g5, g6, g7, g8, g9⟩ := h10 i hi
    exact ⟨(hB _ _ (by omega) (by omega) (by omega) (by omega)).trans g1, T1 g2 (by omega), (hI _ _ (by omega) (by omega)).trans g3, Q g4 (by omega) rfl, Q g5 (by omega) rfl, Q g6 (by omega) rfl, Q g7 (by omega) rfl, T1 g8 (by omega), T1 g9 (by omega)⟩
  · obtain ⟨g1, g2⟩ := h15 p hp
    exact ⟨(hB _ _ (by omega) (by omega) (by omega) (by omega)).trans g1, T g2 (by omega)⟩
/-- an object has come at z -/
theorem XSt.made {x z : Nat} {t : TT} {I : MI} {R : MR} {B : MR} {τ : Nat × Nat} (h : XSt x t I R B) (hz : x + 141 ≤ z) : XSt x (va_up t z τ) (zI I z) (zR R z) B :=
  h.mono (fun a ha => va_up_ne _ _ (by omega)) (fun f a ha _ => zI_ne _ _ (by omega)) (fun f a ha _ => zR_ne _ _ (by omega)) (fun _ _ _ _ _ _ => rfl)
def lotI (I : MI) (o : Nat) (mk md g mr c cm : Int32) : MI := up2 (up2 (up2 (up2 (up2 (up2 (up2 I 301 o mk) 302 o md) 303 o g) 304 o mr) 305 o c) 306 o c) 307 o cm
theorem sem_X3_init {l : Launch} {D : va_G} {A : Nat → Prop} {z : Nat} {t : TT} {I : MI} {R : MR} {J : MI} {B : MR} {o : Nat} {r : Option Nat} {mk md g mr c cm : Int32} {Φ : PP} (ho : (t o).1 = 4) (q : Φ none z t (lotI I o mk md g mr c cm) (up2 R 300 o r) J B) : Sem l D A 1 0 0 mX3_init [va_rf (some o), va_rf r, .int mk, .int md, .int g, .int mr, .int c, .int cm] z t I R J B Φ := by
  refine Sem.run [some (va_rf (some o)), some (va_rf r), some (.int mk), some (.int md), some (.int g), some (.int mr), some (.int c), some (.int cm)] (by decide) rfl (ent_r (ent_r (ent_i (ent_i (ent_i (ent_i (ent_i (ent_i ent_nil)))))))) ?_
  refine V_aload dX3_init_0 rfl ?_
  refine V_objInit dX3_init_1 lk_X3_3 w_oi1 w_oi2 (by decide) (by decide) (Nat.le_of_ble_eq_true rfl) ?_
  refine V_aload dX3_init_4 rfl ?_
  refine V_aload dX3_init_5 rfl ?_
  refine V_putR fk_X3_9 (Or.inr ⟨rfl, rfl, rfl⟩) (fun v => by cases v <;> rfl) (fun v => by cases v <;> rfl) dX3_init_6 (by assumption) ?_
  refine V_aload dX3_init_9 rfl ?_
  refine V_iload dX3_init_10 rfl ?_
  refine V_putI fk_X3_15 (Or.inr ⟨rfl, rfl, rfl⟩) rfl rfl dX3_init_11 (by assumption) ?_
  refine V_aload dX3_init_14 rfl ?_
  refine V_iload dX3_init_15 rfl ?_
  refine V_putI fk_X3_19 (Or.inr ⟨rfl, rfl, rfl⟩) rfl rfl dX3_init_16 (by assumption) ?_
  refine V_aload dX3_init_19 rfl ?_
  refine V_iload dX3_init_20 rfl ?_
  refine V_putI fk_X3_22 (Or.inr ⟨rfl, rfl, rfl⟩) rfl rfl dX3_init_22 (by assumption) ?_
  refine V_aload dX3_init_25 rfl ?_
  refine V_iload dX3_init_26 rfl ?_
  refine V_putI fk_X3_25 (Or.inr ⟨rfl, rfl, rfl⟩) rfl rfl dX3_init_28 (by assumption) ?_
  refine V_aload dX3_init_31 rfl ?_
  refine V_iload dX3_init_32 rfl ?_
  refine V_putI fk_X3_28 (Or.inr ⟨rfl, rfl, rfl⟩) rfl rfl dX3_init_34 (by assumption) ?_
  refine V_aload dX3_init_37 rfl ?_
  refine V_iload dX3_init_38 rfl ?_
  refine V_putI fk_X3_31 (Or.inl rfl) rfl rfl dX3_init_40 (by assumption) ?_
  refine V_aload dX3_init_43 rfl ?_
  refine V_iload dX3_init_44 rfl ?_
  refine V_putI fk_X3_34 (Or.inl rfl) rfl rfl dX3_init_46 (by assumption) ?_
  exact V_vret dX3_init_49 rfl (by decide) (by decide) q
/-- the chain with a put behind all that were made in the same week or ahead of it -/
def insA (md : Nat → Int32) (a : Nat) : List Nat → List Nat
  | [] => [a]
  | c :: cs => if md c ≤ md a then c :: insA md a cs else a :: c :: cs
def insC (md : Nat → Int32) (a : Nat) : List Nat → List Nat
  | [] => [a]
  | b :: bs => b :: insA md a bs
theorem Chain.set {t : TT} {R : MR} {c : Nat} {v : Option Nat} : ∀ (ch : List Nat) (r : Option Nat), Chain t R r ch → c ∉ ch → Chain t (up2 R 313 c v) r ch
  | [], _, h, _ => h
  | a :: as, r, h, hc => by
    obtain ⟨h1, h2, h3⟩ := h
    refine ⟨h1, h2, ?_⟩
    rw [up2o (fun e => hc (by rw [e]; exact List.mem_cons_self))]
    exact Chain.set as _ h3 (fun h => hc (List.mem_cons_of_mem _ h))
theorem lp_X4_putInChain {l : Launch} {D : va_G} {A : Nat → Prop} {z : Nat} {t : TT} {I : MI} {R : MR} {J : MI} {B : MR} {o a : Nat} {Φ : PP} (ho : (t o).1 = 5) (ha : (t a).1 = 4) : ∀ (rest : List Nat) (b : Nat), (t b).1 = 4 → Chain t R (R 313 b) rest → a ∉ b :: rest → (b :: rest).Nodup →
    (∀ R' : MR, Chain t R' (some b) (b :: insA (I 302) a rest) → (∀ g, g ≠ 313 → R' g = R g) → (∀ c, c ∉ a :: b :: rest → R' 313 c = R 313 c) → Φ none z t I R' J B) →
    V l D A (rmm 0 0 0) mX4_putInChain (KS D A 0 0 Φ) 0 0 z t I R J B 18 [some (va_rf (some o)), some (va_rf (some a)), some (va_rf (some b))] [] := by
  intro rest
  induction rest with
  | nil =>
    intro b hb hch hnm hnd q
    have hr : R 313 b = none := hch
    have hab : a ≠ b := fun e => hnm (by rw [e]; exact List.mem_cons_self)
    refine V_aload dX4_putInChain_18 rfl ?_
    refine V_getRs fk_X4_37 dX4_putInChain_19 hb hr ?_
    refine V_ifnull dX4_putInChain_22 (fun hn22 => ?_) (fun a22 hs22 => ?_)
    · refine V_aload dX4_putInChain_47 rfl ?_
      refine V_aload dX4_putInChain_48 rfl ?_
      refine V_getRs fk_X4_37 dX4_putInChain_49 hb hr ?_
      refine V_putR fk_X4_37 (Or.inl rfl) (fun v => by cases v <;> rfl) (fun v => by cases v <;> rfl) dX4_putInChain_52 ha ?_
      refine V_aload dX4_putInChain_55 rfl ?_
      refine V_aload dX4_putInChain_56 rfl ?_
      refine V_putR fk_X4_37 (Or.inl rfl) (fun v => by cases v <;> rfl) (fun v => by cases v <;> rfl) dX4_putInChain_57 hb ?_
      exact V_vret dX4_putInChain_60 rfl (by decide) (by decide) (q _ ⟨rfl, hb, by rw [up2s]; exact ⟨rfl, ha, by rw [up2o hab, up2s]; rfl⟩⟩ (fun g hg => by rw [up2_ne _ _ _ hg, up2_ne _ _ _ hg]) (fun c hc => by rw [up2o (fun e => hc (by rw [e]; simp)), up2o (fun e => hc (by rw [e]; simp))]))
    · exact absurd hs22 (by simp)
  | cons c cs ih =>
    intro b hb hch hnm hnd q
    obtain ⟨hr, hc, hch⟩ := hch
    have hab : a ≠ b := fun e => hnm (by rw [e]; exact List.mem_cons_self)
    have hbc : b ∉ c :: cs := (List.nodup_cons.mp hnd).1
    have hac : a ∉ c :: cs := fun h => hnm (List.mem_cons_of_mem _ h)
    refine V_aload dX4_putInChain_18 rfl ?_
    refine V_getRs fk_X4_37 dX4_putInChain_19 hb hr ?_
    refine V_ifnull dX4_putInChain_22 (fun hn22 => ?_) (fun a22 hs22 => ?_)
    · exact absurd hn22 (by simp)
    · cases hs22
      refine V_aload dX4_putInChain_25 rfl ?_
      refine V_getRs fk_X4_37 dX4_putInChain_26 hb hr ?_
      refine V_getI fk_X4_40 dX4_putInChain_29 hc ?_
      refine V_aload dX4_putInChain_32 rfl ?_
      refine V_getI fk_X4_40 dX4_putInChain_33 ha ?_
      refine V_icmp_gt dX4_putInChain_36 (fun hc36 => ?_) (fun hc36 => ?_)
      · refine V_aload dX4_putInChain_47 rfl ?_
        refine V_aload dX4_putInChain_48 rfl ?_
        refine V_getRs fk_X4_37 dX4_putInChain_49 hb hr ?_
        refine V_putR fk_X4_37 (Or.inl rfl) (fun v => by cases v <;> rfl) (fun v => by cases v <;> rfl) dX4_putInChain_52 ha ?_
        refine V_aload dX4_putInChain_55 rfl ?_
        refine V_aload dX4_putInChain_56 rfl ?_
        refine V_putR fk_X4_37 (Or.inl rfl) (fun v => by cases v <;> rfl) (fun v => by cases v <;> rfl) dX4_putInChain_57 hb ?_
        exact V_vret dX4_putInChain_60 rfl (by decide) (by decide) (q _ (by
              have e : insA (I 302) a (c :: cs) = a :: c :: cs := if_neg (fun h => by rw [i_lt] at hc36; rw [i_le] at h; omega)
              rw [e]
              refine ⟨rfl, hb, ?_⟩
              rw [up2s]
              refine ⟨rfl, ha, ?_⟩
              rw [up2o hab, up2s]
              refine Chain.set _ _ (Chain.set _ _ ?_ hac) hbc
              exact ⟨rfl, hc, hch⟩) (fun g hg => by rw [up2_ne _ _ _ hg, up2_ne _ _ _ hg]) (fun d hd => by rw [up2o (fun e => hd (by rw [e]; simp)), up2o (fun e => hd (by rw [e]; simp))]))
      · refine V_aload dX4_putInChain_39 rfl ?_
        refine V_getRs fk_X4_37 dX4_putInChain_40 hb hr ?_
        refine V_as2 dX4_putInChain_43 (by decide) (noL_r _) ?_
        refine V_goto dX4_putInChain_44 ?_
        refine V.sub (lsS (lsS (lsS ls0))) (ih c hc hch hac (List.nodup_cons.mp hnd).2 (fun R' g1 g2 g3 => ?_))
        have hle : I 302 c ≤ I 302 a := by rw [i_lt] at hc36; rw [i_le]; omega
        refine q R' ?_ g2 (fun d hd => g3 d (fun h => hd (by simp only [List.mem_cons] at h ⊢; rcases h with h | h | h <;> simp [h])))
        have e : insA (I 302) a (c :: cs) = c :: insA (I 302) a cs := if_pos hle
        rw [e]
        refine ⟨rfl, hb, ?_⟩
        rw [g3 b (fun h => by simp only [List.mem_cons] at h hbc; rcases h with h | h | h
                              · exact hab h.symm
                              · exact hbc (Or.inl h)
                              · exact hbc (Or.inr h)), hr]
        exact g1
/-- what entering a lot does to the links -/
def Linked (t : TT) (o a : Nat) (md : Nat → Int32) (ch : List Nat) (R R' : MR) : Prop := Chain t R' (R' 402 o) (insC md a ch) ∧ (∀ g, g ≠ 313 → g ≠ 402 → R' g = R g) ∧ (∀ b, b ∉ a :: ch → R' 313 b = R 313 b) ∧ ∀ b, b ≠ o → R' 402 b = R 402 b
theorem sem_X4_putInChain {l : Launch} {D : va_G} {A : Nat → Prop} {z : Nat} {t : TT} {I : MI} {R : MR} {J : MI} {B : MR} {o a : Nat} {ch : List Nat} {Φ : PP} (ho : (t o).1 = 5) (ha : (t a).1 = 4) (hch : Chain t R (R 402 o) ch) (hnm : a ∉ ch) (hnd : ch.Nodup) (hfr : R 313 a = none) (q : ∀ R', Linked t o a (I 302) ch R R' → Φ none z t I R' J B) : Sem l D A 0 0 0 mX4_putInChain [va_rf (some o), va_rf (some a)] z t I R J B Φ := by
  refine Sem.run [some (va_rf (some o)), some (va_rf (some a)), none] (by decide) rfl (ent_r (ent_r (ent_none ent_nil))) ?_
  refine V_aload dX4_putInChain_0 rfl ?_
  refine V_getR fk_X4_33 dX4_putInChain_1 (by assumption) ?_
  refine V_ifnonnull dX4_putInChain_4 (fun a4 hs4 => ?_) (fun hn4 => ?_)
  · cases ch with
    | nil => exact absurd (hs4.symm.trans hch) (by simp)
    | cons b bs =>
    obtain ⟨hr, hb, hch⟩ := hch
    refine V_aload dX4_putInChain_13 rfl ?_
    refine V_getRs fk_X4_33 dX4_putInChain_14 (by assumption) hr ?_
    refine V_as2 dX4_putInChain_17 (by decide) (noL_r _) ?_
    exact lp_X4_putInChain ho ha bs b hb hch hnm hnd (fun R' g1 g2 g3 => q R' ⟨by rw [g2 402 (by decide), hr]; exact g1, fun g h1 _ => g2 g h1, g3, fun c _ => by rw [g2 402 (by decide)]⟩)
  · cases ch with
    | cons b bs => exact absurd (hn4.symm.trans hch.1) (by simp)
    | nil =>
    refine V_aload dX4_putInChain_7 rfl ?_
    refine V_aload dX4_putInChain_8 rfl ?_
    refine V_putR fk_X4_33 (Or.inl rfl) (fun v => by cases v <;> rfl) (fun v => by cases v <;> rfl) dX4_putInChain_9 (by assumption) ?_
    exact V_vret dX4_putInChain_12 rfl (by decide) (by decide) (q _ ⟨by rw [up2s]; exact ⟨rfl, ha, by rw [up2n (by decide)]; exact hfr⟩, fun g _ hg => up2_ne _ _ _ hg, fun b _ => up2n (by decide), fun b hb => up2o hb⟩)
theorem sem_X4_enter {l : Launch} {D : va_G} {A : Nat → Prop} {z : Nat} {t : TT} {I : MI} {R : MR} {J : MI} {B : MR} {o ab a n : Nat} {ch : List Nat} {Φ : PP} (ho : (t o).1 = 5) (h1 : R 400 o = some ab) (h2 : t ab = (24, 300)) (hn : I 401 o = nI n) (hn2 : n < 300) (ha : (t a).1 = 4) (hch : Chain t R (R 402 o) ch) (hnm : a ∉ ch) (hnd : ch.Nodup) (hfr : R 313 a = none) (q : ∀ R', Linked t o a (I 302) ch R R' → Φ (some (.int (nI n))) z t (up2 I 401 o (nI (n + 1))) R' J (va_up B ab (va_up (B ab) n (some a)))) : Sem l D A 1 0 0 mX4_enter [va_rf (some o), va_rf (some a)] z t I R J B Φ := by
  refine Sem.run [some (va_rf (some o)), some (va_rf (some a)), none] (by decide) rfl (ent_r (ent_r (ent_none ent_nil))) ?_
  refine V_aload dX4_enter_0 rfl ?_
  refine V_invV (As := []) mv_X4_isFull lk_X4_25 dX4_enter_1 (c := 4) (by decide) rfl rfl (by assumption) rfl rfl (Nat.le_of_ble_eq_true rfl) ⟨⟨by decide, by decide⟩, by decide, by decide⟩ (sem_X4_isFull ho ?_)
  refine V_if_eq dX4_enter_4 (fun hc4 => ?_) (fun hc4 => ?_)
  · refine V_aload dX4_enter_9 rfl ?_
    refine V_getIs fk_X4_17 dX4_enter_10 (by assumption) hn ?_
    refine V_is2 dX4_enter_13 (by decide) (noL_r _) ?_
    refine V_aload dX4_enter_14 rfl ?_
    refine V_getRs fk_X4_11 dX4_enter_15 (by assumption) h1 ?_
    refine V_iload dX4_enter_18 rfl ?_
    refine V_aload dX4_enter_19 rfl ?_
    refine V_aast (j := 3) dX4_enter_20 rfl h2 ha (by decide) ⟨rfl, by decide⟩ rfl hn2 (by decide) ?_
    refine V_aload dX4_enter_21 rfl ?_
    refine V_dupr dX4_enter_22 ?_
    refine V_getIs fk_X4_17 dX4_enter_23 (by assumption) hn ?_
    refine V_const dX4_enter_26 ?_
    refine V_iadd dX4_enter_27 ?_
    refine V_putI fk_X4_17 (Or.inl rfl) rfl rfl dX4_enter_28 (by assumption) ?_
    refine V_aload dX4_enter_31 rfl ?_
    refine V_aload dX4_enter_32 rfl ?_
    refine V_invV (As := [_]) mv_X4_putInChain lk_X4_29 dX4_enter_33 (c := 4) (by decide) rfl rfl (by assumption) rfl rfl (Nat.le_of_ble_eq_true rfl) ⟨⟨by decide, by decide⟩, by decide, by decide⟩ (sem_X4_putInChain ho ha hch hnm hnd hfr (fun R' hL => ?_))
    refine V_iload dX4_enter_36 rfl ?_
    exact V_iret dX4_enter_37 rfl (by decide) (by decide) (by rw [nI_1]; exact q R' hL)
  · rw [bI_n0, hn] at hc4; exact absurd hc4 (nI_ge hn2 (by decide))
