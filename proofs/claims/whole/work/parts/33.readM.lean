-- THE REFERENCE'S READER
abbrev dgt (f : Nat → Int32) (n a : Nat) : Prop := 48 ≤ byA f n a ∧ byA f n a ≤ 57
def nuM (f : Nat → Int32) (n a : Nat) : Int32 := if (dgA f n 5 a 0).1 = a then -1 else if dgt f n (dgA f n 5 a 0).1 then -1 else (dgA f n 5 a 0).2
def clDM (f : Nat → Int32) (n : Nat) (l s v : Int32) (a5 : Nat) : Nat × Option CC := if nuM f n (a6A f n a5) = -1 then ((dgA f n 5 (a6A f n a5) 0).1, none) else ((dgA f n 5 (a6A f n a5) 0).1, some (l, s, v, am6 f n a5 (nuM f n (a6A f n a5))))
def clCM (f : Nat → Int32) (n : Nat) (l s : Int32) (a : Nat) : Nat × Option CC := if nuM f n (sk f n a) = -1 then ((dgA f n 5 (sk f n a) 0).1, none) else if byA f n (sk f n (dgA f n 5 (sk f n a) 0).1) = 58 then clDM f n l s (nuM f n (sk f n a)) (sk f n (sk f n (dgA f n 5 (sk f n a) 0).1 + 1)) else (sk f n (dgA f n 5 (sk f n a) 0).1, none)
def clBM (f : Nat → Int32) (n : Nat) (l : Int32) (a : Nat) : Nat × Option CC := if isS (byA f n (sk f n a)) then clCM f n l (byA f n (sk f n a)) (sk f n a + 1) else (sk f n a, none)
def clAM (f : Nat → Int32) (n : Nat) (a : Nat) : Nat × Option CC := if isL (byA f n (sk f n a)) then clBM f n (byA f n (sk f n a)) (sk f n a + 1) else (sk f n a, none)
theorem lp_X12_look {l : Launch} {D : va_G} {A : Nat → Prop} {z : Nat} {t : TT} {I : MI} {R : MR} {J : MI} {B : MR} {m n : Nat} {Φ : PP} (hM : MSt m t R) (hn : I 1231 m = nI n) (hn2 : n ≤ 200) : ∀ (k a : Nat), n ≤ a + k → a ≤ 200 → Φ (some (.int (byA (J (m + 26)) n (sk (J (m + 26)) n a)))) z t (up2 I 1232 m (nI (sk (J (m + 26)) n a))) R J B → V l D A (rmm 0 0 0) mX12_look (KS D A 0 0 Φ) 0 0 z t (up2 I 1232 m (nI a)) R J B 0 [some (va_rf (some m))] [] := by
  intro k
  induction k with
  | zero =>
    intro a hk ha q
    rw [sk_f (fun h => by omega)] at q
    rw [show byA (J (m + 26)) n a = -1 from if_neg (by omega)] at q
    refine V_aload dX12_look_0 rfl ?_
    refine V_getIs fk_X12_179 dX12_look_1 hM.1 up2s ?_
    refine V_aload dX12_look_4 rfl ?_
    refine V_getIs fk_X12_176 dX12_look_5 hM.1 ((up2n (by decide)).trans hn) ?_
    refine V_icmp_ge dX12_look_8 (fun hc8 => ?_) (fun hc8 => ?_)
    · refine V_aload dX12_look_38 rfl ?_
      refine V_getIs fk_X12_179 dX12_look_39 hM.1 up2s ?_
      refine V_aload dX12_look_42 rfl ?_
      refine V_getIs fk_X12_176 dX12_look_43 hM.1 ((up2n (by decide)).trans hn) ?_
      refine V_icmp_ge dX12_look_46 (fun hc46 => ?_) (fun hc46 => ?_)
      · refine V_const dX12_look_61 ?_
        exact V_iret dX12_look_62 rfl (by decide) (by decide) q
      · exact absurd (nI_le (by omega) (by omega)) hc46
    · exact absurd (nI_le (by omega) (by omega)) hc8
  | succ k ih =>
    intro a hk ha q
    refine V_aload dX12_look_0 rfl ?_
    refine V_getIs fk_X12_179 dX12_look_1 hM.1 up2s ?_
    refine V_aload dX12_look_4 rfl ?_
    refine V_getIs fk_X12_176 dX12_look_5 hM.1 ((up2n (by decide)).trans hn) ?_
    refine V_icmp_ge dX12_look_8 (fun hc8 => ?_) (fun hc8 => ?_)
    · have hge : ¬ a < n := fun h => absurd hc8 (nI_ge h (by omega))
      rw [sk_f (fun h => hge h.1)] at q
      rw [show byA (J (m + 26)) n a = -1 from if_neg hge] at q
      refine V_aload dX12_look_38 rfl ?_
      refine V_getIs fk_X12_179 dX12_look_39 hM.1 up2s ?_
      refine V_aload dX12_look_42 rfl ?_
      refine V_getIs fk_X12_176 dX12_look_43 hM.1 ((up2n (by decide)).trans hn) ?_
      refine V_icmp_ge dX12_look_46 (fun hc46 => ?_) (fun hc46 => ?_)
      · refine V_const dX12_look_61 ?_
        exact V_iret dX12_look_62 rfl (by decide) (by decide) q
      · exact absurd (nI_le (by omega) (by omega)) hc46
    · have hlt : a < n := by
        rcases Nat.lt_or_ge a n with h | h
        · exact h
        · exact absurd (nI_le h (by omega)) hc8
      refine V_aload dX12_look_11 rfl ?_
      refine V_getRs fk_X12_85 dX12_look_12 hM.1 hM.a1230.1 ?_
      refine V_aload dX12_look_15 rfl ?_
      refine V_getIs fk_X12_179 dX12_look_16 hM.1 up2s ?_
      refine V_iald dX12_look_19 hM.a1230.2 rfl (by omega) (by decide) ?_
      refine V_const dX12_look_20 ?_
      refine V_icmp_ne dX12_look_22 (fun hc22 => ?_) (fun hc22 => ?_)
      · refine V_aload dX12_look_38 rfl ?_
        refine V_getIs fk_X12_179 dX12_look_39 hM.1 up2s ?_
        refine V_aload dX12_look_42 rfl ?_
        refine V_getIs fk_X12_176 dX12_look_43 hM.1 ((up2n (by decide)).trans hn) ?_
        refine V_icmp_ge dX12_look_46 (fun hc46 => ?_) (fun hc46 => ?_)
        · exact absurd hc46 (nI_ge hlt (by omega))
        · rw [sk_f (fun h => hc22 h.2)] at q
          rw [show byA (J (m + 26)) n a = J (m + 26) a from if_pos hlt] at q
          refine V_aload dX12_look_49 rfl ?_
          refine V_getRs fk_X12_85 dX12_look_50 hM.1 hM.a1230.1 ?_
          refine V_aload dX12_look_53 rfl ?_
          refine V_getIs fk_X12_179 dX12_look_54 hM.1 up2s ?_
          refine V_iald dX12_look_57 hM.a1230.2 rfl (by omega) (by decide) ?_
          refine V_goto dX12_look_58 ?_
          exact V_iret dX12_look_62 rfl (by decide) (by decide) q
      · refine V_aload dX12_look_25 rfl ?_
        refine V_dupr dX12_look_26 ?_
        refine V_getIs fk_X12_179 dX12_look_27 hM.1 up2s ?_
        refine V_const dX12_look_30 ?_
        refine V_iadd dX12_look_31 ?_
        refine V_putI fk_X12_179 (Or.inl rfl) rfl rfl dX12_look_32 hM.1 ?_
        refine V_goto dX12_look_35 ?_
        rw [up2_uu, nI_1]
        exact ih (a + 1) (by omega) (by omega) (by rw [sk_t ⟨hlt, hc22⟩] at q; exact q)
theorem sem_X12_look {l : Launch} {D : va_G} {A : Nat → Prop} {z : Nat} {t : TT} {I : MI} {R : MR} {J : MI} {B : MR} {m n a : Nat} {Φ : PP} (hM : MSt m t R) (hn : I 1231 m = nI n) (hn2 : n ≤ 200) (ha : a ≤ 200) (q : Φ (some (.int (byA (J (m + 26)) n (sk (J (m + 26)) n a)))) z t (up2 I 1232 m (nI (sk (J (m + 26)) n a))) R J B) : Sem l D A 0 0 0 mX12_look [va_rf (some m)] z t (up2 I 1232 m (nI a)) R J B Φ := by
  refine Sem.run [some (va_rf (some m))] (by decide) rfl (ent_r ent_nil) ?_
  exact lp_X12_look hM hn hn2 n a (by omega) ha q
theorem sem_X12_isDigit {l : Launch} {D : va_G} {A : Nat → Prop} {z : Nat} {t : TT} {I : MI} {R : MR} {J : MI} {B : MR} {x : Int32} {Φ : PP}  (q : Φ (some (.int (bI (48 ≤ x ∧ x ≤ 57)))) z t I R J B) : Sem l D A 0 0 0 mX12_isDigit [.int x] z t I R J B Φ := by
  refine Sem.run [some (.int x)] (by decide) rfl (ent_i ent_nil) ?_
  refine V_iload dX12_isDigit_0 rfl ?_
  refine V_const dX12_isDigit_1 ?_
  refine V_icmp_lt dX12_isDigit_3 (fun hc3 => ?_) (fun hc3 => ?_)
  · refine V_const dX12_isDigit_16 ?_
    exact V_zret dX12_isDigit_17 rfl (by first | exact Or.inl rfl | exact Or.inr rfl) (by decide) (by decide) (by rw [bI_f (by rw [i_le]; rw [i_lt] at hc3; omega)] at q; exact q)
  · refine V_iload dX12_isDigit_6 rfl ?_
    refine V_const dX12_isDigit_7 ?_
    refine V_icmp_gt dX12_isDigit_9 (fun hc9 => ?_) (fun hc9 => ?_)
    · refine V_const dX12_isDigit_16 ?_
      exact V_zret dX12_isDigit_17 rfl (by first | exact Or.inl rfl | exact Or.inr rfl) (by decide) (by decide) (by rw [bI_f (by rw [i_le, i_le]; rw [i_lt] at hc9; omega)] at q; exact q)
    · refine V_const dX12_isDigit_12 ?_
      refine V_goto dX12_isDigit_13 ?_
      exact V_zret dX12_isDigit_17 rfl (by first | exact Or.inl rfl | exact Or.inr rfl) (by decide) (by decide) (by rw [bI_t (by rw [i_le, i_le]; rw [i_lt] at hc9 hc3; omega)] at q; exact q)
theorem lp_X12_number {l : Launch} {D : va_G} {A : Nat → Prop} {z : Nat} {t : TT} {I : MI} {R : MR} {J : MI} {B : MR} {m n : Nat} {Φ : PP} (hM : MSt m t R) (hn : I 1231 m = nI n) (hn2 : n ≤ 200) : ∀ (k a : Nat) (v : Int32), k ≤ 5 → a ≤ 205 → Φ (some (.int (if dgt (J (m + 26)) n (dgA (J (m + 26)) n k a v).1 then -1 else (dgA (J (m + 26)) n k a v).2))) z t (up2 I 1232 m (nI (dgA (J (m + 26)) n k a v).1)) R J B → V l D A (rmm 1 0 0) mX12_number (KS D A 0 0 Φ) 0 0 z t (up2 I 1232 m (nI a)) R J B 32 [some (va_rf (some m)), some (.int v), some (.int (nI (5 - k)))] [] := by
  intro k
  induction k with
  | zero =>
    intro a v hk ha q
    rw [dgA] at q
    refine V_aload dX12_number_32 rfl ?_
    refine V_getIs fk_X12_179 dX12_number_33 hM.1 up2s ?_
    refine V_aload dX12_number_36 rfl ?_
    refine V_getIs fk_X12_176 dX12_number_37 hM.1 ((up2n (by decide)).trans hn) ?_
    refine V_icmp_ge dX12_number_40 (fun hc40 => ?_) (fun hc40 => ?_)
    · have hge : ¬ a < n := fun h => absurd hc40 (nI_ge h (by omega))
      have hnd : ¬ dgt (J (m + 26)) n a := fun h => by have h1 := h.1; rw [show byA (J (m + 26)) n a = -1 from if_neg hge] at h1; exact absurd h1 (by decide)
      refine V_iload dX12_number_99 rfl ?_
      exact V_iret dX12_number_100 rfl (by decide) (by decide) (by rw [if_neg hnd] at q; exact q)
    · have hlt : a < n := by
        rcases Nat.lt_or_ge a n with h | h
        · exact h
        · exact absurd (nI_le h (by omega)) hc40
      have hby : byA (J (m + 26)) n a = J (m + 26) a := if_pos hlt
      refine V_aload dX12_number_43 rfl ?_
      refine V_getRs fk_X12_85 dX12_number_44 hM.1 hM.a1230.1 ?_
      refine V_aload dX12_number_47 rfl ?_
      refine V_getIs fk_X12_179 dX12_number_48 hM.1 up2s ?_
      refine V_iald dX12_number_51 hM.a1230.2 rfl (by omega) (by decide) ?_
      refine V_invS (As := [_]) ms_X12_isDigit lk_X12_182 dX12_number_52 rfl rfl rfl (Nat.le_of_ble_eq_true rfl) ⟨⟨by decide, by decide⟩, by decide, by decide⟩ (sem_X12_isDigit ?_)
      refine V_if_eq dX12_number_55 (fun hc55 => ?_) (fun hc55 => ?_)
      · rw [bI_0] at hc55
        have hnd : ¬ dgt (J (m + 26)) n a := fun h => hc55 (by rw [← hby]; exact h)
        refine V_iload dX12_number_99 rfl ?_
        exact V_iret dX12_number_100 rfl (by decide) (by decide) (by rw [if_neg hnd] at q; exact q)
      · rw [bI_n0] at hc55
        have hdg : dgt (J (m + 26)) n a := by show 48 ≤ byA (J (m + 26)) n a ∧ byA (J (m + 26)) n a ≤ 57; rw [hby]; exact hc55
        refine V_iload dX12_number_58 rfl ?_
        refine V_const dX12_number_59 ?_
        refine V_icmp_ne dX12_number_60 (fun hc60 => ?_) (fun hc60 => ?_)
        · exact absurd rfl hc60
        · refine V_const dX12_number_63 ?_
          exact V_iret dX12_number_64 rfl (by decide) (by decide) (by rw [if_pos hdg] at q; exact q)
  | succ k ih =>
    intro a v hk ha q
    rw [dgA] at q
    refine V_aload dX12_number_32 rfl ?_
    refine V_getIs fk_X12_179 dX12_number_33 hM.1 up2s ?_
    refine V_aload dX12_number_36 rfl ?_
    refine V_getIs fk_X12_176 dX12_number_37 hM.1 ((up2n (by decide)).trans hn) ?_
    refine V_icmp_ge dX12_number_40 (fun hc40 => ?_) (fun hc40 => ?_)
    · have hge : ¬ a < n := fun h => absurd hc40 (nI_ge h (by omega))
      have hnd : ¬ dgt (J (m + 26)) n a := fun h => by have h1 := h.1; rw [show byA (J (m + 26)) n a = -1 from if_neg hge] at h1; exact absurd h1 (by decide)
      refine V_iload dX12_number_99 rfl ?_
      exact V_iret dX12_number_100 rfl (by decide) (by decide) (by rw [if_neg hnd] at q; rw [if_neg hnd] at q; exact q)
    · have hlt : a < n := by
        rcases Nat.lt_or_ge a n with h | h
        · exact h
        · exact absurd (nI_le h (by omega)) hc40
      have hby : byA (J (m + 26)) n a = J (m + 26) a := if_pos hlt
      refine V_aload dX12_number_43 rfl ?_
      refine V_getRs fk_X12_85 dX12_number_44 hM.1 hM.a1230.1 ?_
      refine V_aload dX12_number_47 rfl ?_
      refine V_getIs fk_X12_179 dX12_number_48 hM.1 up2s ?_
      refine V_iald dX12_number_51 hM.a1230.2 rfl (by omega) (by decide) ?_
      refine V_invS (As := [_]) ms_X12_isDigit lk_X12_182 dX12_number_52 rfl rfl rfl (Nat.le_of_ble_eq_true rfl) ⟨⟨by decide, by decide⟩, by decide, by decide⟩ (sem_X12_isDigit ?_)
      refine V_if_eq dX12_number_55 (fun hc55 => ?_) (fun hc55 => ?_)
      · rw [bI_0] at hc55
        have hnd : ¬ dgt (J (m + 26)) n a := fun h => hc55 (by rw [← hby]; exact h)
        refine V_iload dX12_number_99 rfl ?_
        exact V_iret dX12_number_100 rfl (by decide) (by decide) (by rw [if_neg hnd] at q; rw [if_neg hnd] at q; exact q)
      · rw [bI_n0] at hc55
        have hdg : dgt (J (m + 26)) n a := by show 48 ≤ byA (J (m + 26)) n a ∧ byA (J (m + 26)) n a ≤ 57; rw [hby]; exact hc55
        refine V_iload dX12_number_58 rfl ?_
        refine V_const dX12_number_59 ?_
        refine V_icmp_ne dX12_number_60 (fun hc60 => ?_) (fun hc60 => ?_)
        · refine V_const dX12_number_65 ?_
          refine V_iload dX12_number_67 rfl ?_
          refine V_imul dX12_number_68 ?_
          refine V_aload dX12_number_69 rfl ?_
          refine V_getRs fk_X12_85 dX12_number_70 hM.1 hM.a1230.1 ?_
          refine V_aload dX12_number_73 rfl ?_
          refine V_getIs fk_X12_179 dX12_number_74 hM.1 up2s ?_
          refine V_iald dX12_number_77 hM.a1230.2 rfl (by omega) (by decide) ?_
          refine V_iadd dX12_number_78 ?_
          refine V_const dX12_number_79 ?_
          refine V_isub dX12_number_81 ?_
          refine V_is1 dX12_number_82 (by decide) (noL_r _) ?_
          refine V_ii2 dX12_number_83 (by decide) (noL_i _) ?_
          refine V_aload dX12_number_86 rfl ?_
          refine V_dupr dX12_number_87 ?_
          refine V_getIs fk_X12_179 dX12_number_88 hM.1 up2s ?_
          refine V_const dX12_number_91 ?_
          refine V_iadd dX12_number_92 ?_
          refine V_putI fk_X12_179 (Or.inl rfl) rfl rfl dX12_number_93 hM.1 ?_
          refine V_goto dX12_number_96 ?_
          rw [up2_uu, nI_1]
          refine V.sub (lsS (lsE (by rw [hby, Int32.mul_comm]) (lsE (by rw [nI_1, show 5 - (k + 1) + 1 = 5 - k by omega]) ls0))) (ih (a + 1) (v * 10 + byA (J (m + 26)) n a - 48) (by omega) (by omega) (by rw [if_pos hdg] at q; exact q))
        · exact absurd ((nI_eq (by omega) (by decide)).mp (show nI (5 - (k + 1)) = nI 5 from hc60)) (by omega)
theorem sem_X12_number {l : Launch} {D : va_G} {A : Nat → Prop} {z : Nat} {t : TT} {I : MI} {R : MR} {J : MI} {B : MR} {m n a : Nat}  {Φ : PP} (hM : MSt m t R) (hn : I 1231 m = nI n) (hn2 : n ≤ 200) (ha : a ≤ 200) (q : Φ (some (.int (nuM (J (m + 26)) n a))) z t (up2 I 1232 m (nI (dgA (J (m + 26)) n 5 a 0).1)) R J B) : Sem l D A 1 0 0 mX12_number [va_rf (some m)] z t (up2 I 1232 m (nI a)) R J B Φ := by
  refine Sem.run [some (va_rf (some m)), none, none] (by decide) rfl (ent_r (ent_none (ent_none ent_nil))) ?_
  refine V_aload dX12_number_0 rfl ?_
  refine V_getIs fk_X12_179 dX12_number_1 hM.1 up2s ?_
  refine V_aload dX12_number_4 rfl ?_
  refine V_getIs fk_X12_176 dX12_number_5 hM.1 ((up2n (by decide)).trans hn) ?_
  refine V_icmp_ge dX12_number_8 (fun hc8 => ?_) (fun hc8 => ?_)
  · have hge : ¬ a < n := fun h => absurd hc8 (nI_ge h (by omega))
    have hnd : ¬ dgt (J (m + 26)) n a := fun h => by have h1 := h.1; rw [show byA (J (m + 26)) n a = -1 from if_neg hge] at h1; exact absurd h1 (by decide)
    refine V_const dX12_number_26 ?_
    exact V_iret dX12_number_27 rfl (by decide) (by decide) (by have e : dgA (J (m + 26)) n 5 a 0 = (a, 0) := (by rw [dgA, if_neg hnd]); unfold nuM at q; rw [e] at q; rw [if_pos (show (a, (0 : Int32)).1 = a from rfl)] at q; exact q)
  · have hlt : a < n := by
      rcases Nat.lt_or_ge a n with h | h
      · exact h
      · exact absurd (nI_le h (by omega)) hc8
    have hby : byA (J (m + 26)) n a = J (m + 26) a := if_pos hlt
    refine V_aload dX12_number_11 rfl ?_
    refine V_getRs fk_X12_85 dX12_number_12 hM.1 hM.a1230.1 ?_
    refine V_aload dX12_number_15 rfl ?_
    refine V_getIs fk_X12_179 dX12_number_16 hM.1 up2s ?_
    refine V_iald dX12_number_19 hM.a1230.2 rfl (by omega) (by decide) ?_
    refine V_invS (As := [_]) ms_X12_isDigit lk_X12_182 dX12_number_20 rfl rfl rfl (Nat.le_of_ble_eq_true rfl) ⟨⟨by decide, by decide⟩, by decide, by decide⟩ (sem_X12_isDigit ?_)
    refine V_if_ne dX12_number_23 (fun hc23 => ?_) (fun hc23 => ?_)
    · rw [bI_n0] at hc23
      have hdg : dgt (J (m + 26)) n a := by show 48 ≤ byA (J (m + 26)) n a ∧ byA (J (m + 26)) n a ≤ 57; rw [hby]; exact hc23
      refine V_const dX12_number_28 ?_
      refine V_is1 dX12_number_29 (by decide) (noL_r _) ?_
      refine V_const dX12_number_30 ?_
      refine V_is2 dX12_number_31 (by decide) (noL_i _) ?_
      have hne : ¬ (dgA (J (m + 26)) n 5 a 0).1 = a := by
        rw [dgA, if_pos hdg]
        have := dgA_ge (f := J (m + 26)) (n := n) 4 (a + 1) (0 * 10 + byA (J (m + 26)) n a - 48)
        omega
      exact lp_X12_number hM hn hn2 5 a 0 (by decide) (by omega) (by unfold nuM at q; rw [if_neg hne] at q; exact q)
    · rw [bI_0] at hc23
      have hnd : ¬ dgt (J (m + 26)) n a := fun h => hc23 (by rw [← hby]; exact h)
      refine V_const dX12_number_26 ?_
      exact V_iret dX12_number_27 rfl (by decide) (by decide) (by have e : dgA (J (m + 26)) n 5 a 0 = (a, 0) := (by rw [dgA, if_neg hnd]); unfold nuM at q; rw [e] at q; rw [if_pos (show (a, (0 : Int32)).1 = a from rfl)] at q; exact q)
def clQM (Φ : PP) (z : Nat) (t : TT) (I : MI) (R : MR) (J : MI) (B : MR) (m c : Nat) (r : Nat × Option CC) : Prop := match r with
  | (e, none) => Φ (some (.int 0)) z t (up2 I 1232 m (nI e)) R J B
  | (e, some q) => Φ (some (.int 1)) z t (up2 (up2 I 1238 m (nI (c + 1))) 1232 m (nI e)) R (up2 (up2 (up2 (up2 J (m + 28) (400 + c) q.1) (m + 29) (400 + c) q.2.1) (m + 30) (400 + c) q.2.2.1) (m + 31) (400 + c) q.2.2.2) B
theorem tl_X12_cl5 {l : Launch} {D : va_G} {A : Nat → Prop} {z : Nat} {t : TT} {I : MI} {R : MR} {J : MI} {B : MR} {m n a c : Nat} {le sg nu fl4 : Int32} {Φ : PP} (hM : MSt m t R) (hn : I 1231 m = nI n) (hn2 : n ≤ 200) (hc : I 1238 m = nI c) (hc40 : c < 40) (ha : a ≤ n) (q : clQM Φ z t I R J B m c (if nuM (J (m + 26)) n a = -1 then ((dgA (J (m + 26)) n 5 a 0).1, none) else ((dgA (J (m + 26)) n 5 a 0).1, some (le, sg, nu, if fl4 = 0 then nuM (J (m + 26)) n a else -nuM (J (m + 26)) n a)))) : V l D A (rmm 2 0 0) mX12_clause (KS D A 0 0 Φ) 0 0 z t (up2 I 1232 m (nI a)) R J B 147 [some (va_rf (some m)), some (.int le), some (.int sg), some (.int nu), some (.int fl4), none, none] [] := by
  refine V_aload dX12_clause_147 rfl ?_
  refine V_invV (As := []) mv_X12_number lk_X12_189 dX12_clause_148 (c := 12) (by decide) rfl rfl hM.1 rfl rfl (Nat.le_of_ble_eq_true rfl) ⟨⟨by decide, by decide⟩, by decide, by decide⟩ (sem_X12_number hM hn hn2 (by omega) ?_)
  refine V_is5 dX12_clause_151 (by decide) (noL_i _) ?_
  refine V_iload dX12_clause_153 rfl ?_
  refine V_const dX12_clause_155 ?_
  refine V_icmp_ne dX12_clause_156 (fun hc156 => ?_) (fun hc156 => ?_)
  · rw [if_neg hc156] at q
    refine V_const dX12_clause_161 ?_
    refine V_aload dX12_clause_164 rfl ?_
    refine V_getIs fk_X12_192 dX12_clause_165 hM.1 ((up2n (by decide)).trans hc) ?_
    refine V_iadd dX12_clause_168 ?_
    rw [show (400 : Int32) + nI c = nI (400 + c) from nI_add 400 c]
    refine V_is6 dX12_clause_169 (by decide) (noL_i _) ?_
    refine V_aload dX12_clause_171 rfl ?_
    refine V_getRs fk_X12_91 dX12_clause_172 hM.1 hM.a1234.1 ?_
    refine V_iload dX12_clause_175 rfl ?_
    refine V_iload dX12_clause_177 rfl ?_
    refine V_iast dX12_clause_178 hM.a1234.2 rfl (by omega) (by decide) ?_
    refine V_aload dX12_clause_179 rfl ?_
    refine V_getRs fk_X12_94 dX12_clause_180 hM.1 hM.a1235.1 ?_
    refine V_iload dX12_clause_183 rfl ?_
    refine V_iload dX12_clause_185 rfl ?_
    refine V_iast dX12_clause_186 hM.a1235.2 rfl (by omega) (by decide) ?_
    refine V_aload dX12_clause_187 rfl ?_
    refine V_getRs fk_X12_97 dX12_clause_188 hM.1 hM.a1236.1 ?_
    refine V_iload dX12_clause_191 rfl ?_
    refine V_iload dX12_clause_193 rfl ?_
    refine V_iast dX12_clause_194 hM.a1236.2 rfl (by omega) (by decide) ?_
    refine V_aload dX12_clause_195 rfl ?_
    refine V_getRs fk_X12_100 dX12_clause_196 hM.1 hM.a1237.1 ?_
    refine V_iload dX12_clause_199 rfl ?_
    refine V_iload dX12_clause_201 rfl ?_
    refine V_if_eq dX12_clause_203 (fun hc203 => ?_) (fun hc203 => ?_)
    · refine V_iload dX12_clause_212 rfl ?_
      refine V_iast dX12_clause_214 hM.a1237.2 rfl (by omega) (by decide) ?_
      refine V_aload dX12_clause_215 rfl ?_
      refine V_dupr dX12_clause_216 ?_
      refine V_getIs fk_X12_192 dX12_clause_217 hM.1 ((up2n (by decide)).trans hc) ?_
      refine V_const dX12_clause_220 ?_
      refine V_iadd dX12_clause_221 ?_
      refine V_putI fk_X12_192 (Or.inl rfl) rfl rfl dX12_clause_222 hM.1 ?_
      refine V_const dX12_clause_225 ?_
      exact V_zret dX12_clause_226 rfl (by first | exact Or.inl rfl | exact Or.inr rfl) (by decide) (by decide) (by rw [if_pos hc203] at q; rw [nI_1, up2_comm _ _ _ _ _ (by decide)]; exact q)
    · refine V_iload dX12_clause_206 rfl ?_
      refine V_ineg dX12_clause_208 ?_
      refine V_goto dX12_clause_209 ?_
      refine V_iast dX12_clause_214 hM.a1237.2 rfl (by omega) (by decide) ?_
      refine V_aload dX12_clause_215 rfl ?_
      refine V_dupr dX12_clause_216 ?_
      refine V_getIs fk_X12_192 dX12_clause_217 hM.1 ((up2n (by decide)).trans hc) ?_
      refine V_const dX12_clause_220 ?_
      refine V_iadd dX12_clause_221 ?_
      refine V_putI fk_X12_192 (Or.inl rfl) rfl rfl dX12_clause_222 hM.1 ?_
      refine V_const dX12_clause_225 ?_
      exact V_zret dX12_clause_226 rfl (by first | exact Or.inl rfl | exact Or.inr rfl) (by decide) (by decide) (by rw [if_neg hc203] at q; rw [nI_1, up2_comm _ _ _ _ _ (by decide)]; exact q)
  · rw [if_pos hc156] at q
    refine V_const dX12_clause_159 ?_
    exact V_zret dX12_clause_160 rfl (by first | exact Or.inl rfl | exact Or.inr rfl) (by decide) (by decide) q
theorem tl_X12_cl4 {l : Launch} {D : va_G} {A : Nat → Prop} {z : Nat} {t : TT} {I : MI} {R : MR} {J : MI} {B : MR} {m n a c : Nat} {le sg nu : Int32} {Φ : PP} (hM : MSt m t R) (hn : I 1231 m = nI n) (hn2 : n ≤ 200) (hc : I 1238 m = nI c) (hc40 : c < 40) (ha : a ≤ n) (q : clQM Φ z t I R J B m c (clDM (J (m + 26)) n le sg nu (sk (J (m + 26)) n a))) : V l D A (rmm 2 0 0) mX12_clause (KS D A 0 0 Φ) 0 0 z t (up2 I 1232 m (nI a)) R J B 112 [some (va_rf (some m)), some (.int le), some (.int sg), some (.int nu), none, none, none] [] := by
  have h3 : sk (J (m + 26)) n a ≤ n := sk_n ha
  refine V_aload dX12_clause_112 rfl ?_
  refine V_invV (As := []) mv_X12_look lk_X12_185 dX12_clause_113 (c := 12) (by decide) rfl rfl hM.1 rfl rfl (Nat.le_of_ble_eq_true rfl) ⟨⟨by decide, by decide⟩, by decide, by decide⟩ (sem_X12_look hM hn hn2 (by omega) ?_)
  refine V_const dX12_clause_116 ?_
  refine V_icmp_ne dX12_clause_118 (fun hc118 => ?_) (fun hc118 => ?_)
  · unfold clDM a6A am6 at q
    rw [if_neg hc118, if_neg hc118] at q
    refine V_const dX12_clause_125 ?_
    refine V_is4 dX12_clause_126 (by decide) (noL_i _) ?_
    refine V_aload dX12_clause_128 rfl ?_
    refine V_dupr dX12_clause_129 ?_
    refine V_getIs fk_X12_179 dX12_clause_130 hM.1 up2s ?_
    refine V_iload dX12_clause_133 rfl ?_
    refine V_if_eq dX12_clause_135 (fun hc135 => ?_) (fun hc135 => ?_)
    · refine V_const dX12_clause_142 ?_
      refine V_iadd dX12_clause_143 ?_
      refine V_putI fk_X12_179 (Or.inl rfl) rfl rfl dX12_clause_144 hM.1 ?_
      rw [up2_uu, show nI (sk (J (m + 26)) n a) + 0 = nI (sk (J (m + 26)) n a) from nI_add _ 0]
      exact tl_X12_cl5 hM hn hn2 hc hc40 h3 q
    · exact absurd rfl hc135
  · have hlt : sk (J (m + 26)) n a < n := byA_eq hc118 (by decide)
    unfold clDM a6A am6 at q
    rw [if_pos hc118, if_pos hc118] at q
    refine V_const dX12_clause_121 ?_
    refine V_goto dX12_clause_122 ?_
    refine V_is4 dX12_clause_126 (by decide) (noL_i _) ?_
    refine V_aload dX12_clause_128 rfl ?_
    refine V_dupr dX12_clause_129 ?_
    refine V_getIs fk_X12_179 dX12_clause_130 hM.1 up2s ?_
    refine V_iload dX12_clause_133 rfl ?_
    refine V_if_eq dX12_clause_135 (fun hc135 => ?_) (fun hc135 => ?_)
    · exact absurd hc135 (by decide)
    · refine V_const dX12_clause_138 ?_
      refine V_goto dX12_clause_139 ?_
      refine V_iadd dX12_clause_143 ?_
      refine V_putI fk_X12_179 (Or.inl rfl) rfl rfl dX12_clause_144 hM.1 ?_
      rw [up2_uu, nI_1]
      exact tl_X12_cl5 hM hn hn2 hc hc40 hlt q
theorem tl_X12_cl3 {l : Launch} {D : va_G} {A : Nat → Prop} {z : Nat} {t : TT} {I : MI} {R : MR} {J : MI} {B : MR} {m n a c : Nat} {le sg : Int32} {Φ : PP} (hM : MSt m t R) (hn : I 1231 m = nI n) (hn2 : n ≤ 200) (hc : I 1238 m = nI c) (hc40 : c < 40) (ha : a ≤ n) (q : clQM Φ z t I R J B m c (clCM (J (m + 26)) n le sg a)) : V l D A (rmm 2 0 0) mX12_clause (KS D A 0 0 Φ) 0 0 z t (up2 I 1232 m (nI a)) R J B 76 [some (va_rf (some m)), some (.int le), some (.int sg), none, none, none, none] [] := by
  have h3 : sk (J (m + 26)) n a ≤ n := sk_n ha
  have hd3 : (dgA (J (m + 26)) n 5 (sk (J (m + 26)) n a) 0).1 ≤ n := dgA_n _ _ _ h3
  have hs4 : sk (J (m + 26)) n (dgA (J (m + 26)) n 5 (sk (J (m + 26)) n a) 0).1 ≤ n := sk_n hd3
  refine V_aload dX12_clause_76 rfl ?_
  refine V_invV (As := []) mv_X12_look lk_X12_185 dX12_clause_77 (c := 12) (by decide) rfl rfl hM.1 rfl rfl (Nat.le_of_ble_eq_true rfl) ⟨⟨by decide, by decide⟩, by decide, by decide⟩ (sem_X12_look hM hn hn2 (by omega) ?_)
  refine V_popi dX12_clause_80 ?_
  refine V_aload dX12_clause_81 rfl ?_
  refine V_invV (As := []) mv_X12_number lk_X12_189 dX12_clause_82 (c := 12) (by decide) rfl rfl hM.1 rfl rfl (Nat.le_of_ble_eq_true rfl) ⟨⟨by decide, by decide⟩, by decide, by decide⟩ (sem_X12_number hM hn hn2 (by omega) ?_)
  refine V_is3 dX12_clause_85 (by decide) (noL_i _) ?_
  refine V_iload dX12_clause_86 rfl ?_
  refine V_const dX12_clause_87 ?_
  refine V_icmp_eq dX12_clause_88 (fun hc88 => ?_) (fun hc88 => ?_)
  · unfold clCM at q
    rw [if_pos hc88] at q
    refine V_const dX12_clause_100 ?_
    exact V_zret dX12_clause_101 rfl (by first | exact Or.inl rfl | exact Or.inr rfl) (by decide) (by decide) q
  · unfold clCM at q
    rw [if_neg hc88] at q
    refine V_aload dX12_clause_91 rfl ?_
    refine V_invV (As := []) mv_X12_look lk_X12_185 dX12_clause_92 (c := 12) (by decide) rfl rfl hM.1 rfl rfl (Nat.le_of_ble_eq_true rfl) ⟨⟨by decide, by decide⟩, by decide, by decide⟩ (sem_X12_look hM hn hn2 (by omega) ?_)
    refine V_const dX12_clause_95 ?_
    refine V_icmp_eq dX12_clause_97 (fun hc97 => ?_) (fun hc97 => ?_)
    · rw [if_pos hc97] at q
      have hlt : sk (J (m + 26)) n (dgA (J (m + 26)) n 5 (sk (J (m + 26)) n a) 0).1 < n := byA_eq hc97 (by decide)
      refine V_aload dX12_clause_102 rfl ?_
      refine V_dupr dX12_clause_103 ?_
      refine V_getIs fk_X12_179 dX12_clause_104 hM.1 up2s ?_
      refine V_const dX12_clause_107 ?_
      refine V_iadd dX12_clause_108 ?_
      refine V_putI fk_X12_179 (Or.inl rfl) rfl rfl dX12_clause_109 hM.1 ?_
      rw [up2_uu, nI_1]
      exact V.sub (lsS (lsS (lsS (lsS (lsN (lsN (lsN ls0))))))) (tl_X12_cl4 hM hn hn2 hc hc40 hlt q)
    · rw [if_neg hc97] at q
      refine V_const dX12_clause_100 ?_
      exact V_zret dX12_clause_101 rfl (by first | exact Or.inl rfl | exact Or.inr rfl) (by decide) (by decide) q
theorem tl_X12_cl2 {l : Launch} {D : va_G} {A : Nat → Prop} {z : Nat} {t : TT} {I : MI} {R : MR} {J : MI} {B : MR} {m n a c : Nat} {le : Int32} {Φ : PP} (hM : MSt m t R) (hn : I 1231 m = nI n) (hn2 : n ≤ 200) (hc : I 1238 m = nI c) (hc40 : c < 40) (ha : a ≤ n) (q : clQM Φ z t I R J B m c (clBM (J (m + 26)) n le a)) : V l D A (rmm 2 0 0) mX12_clause (KS D A 0 0 Φ) 0 0 z t (up2 I 1232 m (nI a)) R J B 41 [some (va_rf (some m)), some (.int le), none, none, none, none, none] [] := by
  have h3 : sk (J (m + 26)) n a ≤ n := sk_n ha
  have go : isS (byA (J (m + 26)) n (sk (J (m + 26)) n a)) → V l D A (rmm 2 0 0) mX12_clause (KS D A 0 0 Φ) 0 0 z t (up2 I 1232 m (nI (sk (J (m + 26)) n a))) R J B 66 [some (va_rf (some m)), some (.int le), some (.int (byA (J (m + 26)) n (sk (J (m + 26)) n a))), none, none, none, none] [] := fun h => by
    have hlt : sk (J (m + 26)) n a < n := byA_lt (fun e => by rw [e] at h; exact absurd h (by decide))
    unfold clBM at q
    rw [if_pos h] at q
    refine V_aload dX12_clause_66 rfl ?_
    refine V_dupr dX12_clause_67 ?_
    refine V_getIs fk_X12_179 dX12_clause_68 hM.1 up2s ?_
    refine V_const dX12_clause_71 ?_
    refine V_iadd dX12_clause_72 ?_
    refine V_putI fk_X12_179 (Or.inl rfl) rfl rfl dX12_clause_73 hM.1 ?_
    rw [up2_uu, nI_1]
    exact tl_X12_cl3 hM hn hn2 hc hc40 hlt q
  refine V_aload dX12_clause_41 rfl ?_
  refine V_invV (As := []) mv_X12_look lk_X12_185 dX12_clause_42 (c := 12) (by decide) rfl rfl hM.1 rfl rfl (Nat.le_of_ble_eq_true rfl) ⟨⟨by decide, by decide⟩, by decide, by decide⟩ (sem_X12_look hM hn hn2 (by omega) ?_)
  refine V_is2 dX12_clause_45 (by decide) (noL_i _) ?_
  refine V_iload dX12_clause_46 rfl ?_
  refine V_const dX12_clause_47 ?_
  refine V_icmp_eq dX12_clause_49 (fun hc49 => ?_) (fun hc49 => ?_)
  · exact go (Or.inl hc49)
  · refine V_iload dX12_clause_52 rfl ?_
    refine V_const dX12_clause_53 ?_
    refine V_icmp_eq dX12_clause_55 (fun hc55 => ?_) (fun hc55 => ?_)
    · exact go (Or.inr (Or.inl hc55))
    · refine V_iload dX12_clause_58 rfl ?_
      refine V_const dX12_clause_59 ?_
      refine V_icmp_eq dX12_clause_61 (fun hc61 => ?_) (fun hc61 => ?_)
      · exact go (Or.inr (Or.inr hc61))
      · refine V_const dX12_clause_64 ?_
        exact V_zret dX12_clause_65 rfl (by first | exact Or.inl rfl | exact Or.inr rfl) (by decide) (by decide) (by unfold clBM at q; rw [if_neg (fun h => h.elim hc49 (fun h => h.elim hc55 hc61))] at q; exact q)
theorem tl_X12_cl1 {l : Launch} {D : va_G} {A : Nat → Prop} {z : Nat} {t : TT} {I : MI} {R : MR} {J : MI} {B : MR} {m n a c : Nat}  {Φ : PP} (hM : MSt m t R) (hn : I 1231 m = nI n) (hn2 : n ≤ 200) (hc : I 1238 m = nI c) (hc40 : c < 40) (ha : a ≤ n) (q : clQM Φ z t I R J B m c (clAM (J (m + 26)) n a)) : V l D A (rmm 2 0 0) mX12_clause (KS D A 0 0 Φ) 0 0 z t (up2 I 1232 m (nI a)) R J B 0 [some (va_rf (some m)), none, none, none, none, none, none] [] := by
  have h3 : sk (J (m + 26)) n a ≤ n := sk_n ha
  have go : isL (byA (J (m + 26)) n (sk (J (m + 26)) n a)) → V l D A (rmm 2 0 0) mX12_clause (KS D A 0 0 Φ) 0 0 z t (up2 I 1232 m (nI (sk (J (m + 26)) n a))) R J B 31 [some (va_rf (some m)), some (.int (byA (J (m + 26)) n (sk (J (m + 26)) n a))), none, none, none, none, none] [] := fun h => by
    have hlt : sk (J (m + 26)) n a < n := byA_lt (fun e => by rw [e] at h; exact absurd h (by decide))
    unfold clAM at q
    rw [if_pos h] at q
    refine V_aload dX12_clause_31 rfl ?_
    refine V_dupr dX12_clause_32 ?_
    refine V_getIs fk_X12_179 dX12_clause_33 hM.1 up2s ?_
    refine V_const dX12_clause_36 ?_
    refine V_iadd dX12_clause_37 ?_
    refine V_putI fk_X12_179 (Or.inl rfl) rfl rfl dX12_clause_38 hM.1 ?_
    rw [up2_uu, nI_1]
    exact tl_X12_cl2 hM hn hn2 hc hc40 hlt q
  refine V_aload dX12_clause_0 rfl ?_
  refine V_invV (As := []) mv_X12_look lk_X12_185 dX12_clause_1 (c := 12) (by decide) rfl rfl hM.1 rfl rfl (Nat.le_of_ble_eq_true rfl) ⟨⟨by decide, by decide⟩, by decide, by decide⟩ (sem_X12_look hM hn hn2 (by omega) ?_)
  refine V_is1 dX12_clause_4 (by decide) (noL_r _) ?_
  refine V_iload dX12_clause_5 rfl ?_
  refine V_const dX12_clause_6 ?_
  refine V_icmp_eq dX12_clause_8 (fun hc8 => ?_) (fun hc8 => ?_)
  · exact go (Or.inl hc8)
  · refine V_iload dX12_clause_11 rfl ?_
    refine V_const dX12_clause_12 ?_
    refine V_icmp_eq dX12_clause_14 (fun hc14 => ?_) (fun hc14 => ?_)
    · exact go (Or.inr (Or.inl hc14))
    · refine V_iload dX12_clause_17 rfl ?_
      refine V_const dX12_clause_18 ?_
      refine V_icmp_eq dX12_clause_20 (fun hc20 => ?_) (fun hc20 => ?_)
      · exact go (Or.inr (Or.inr (Or.inl hc20)))
      · refine V_iload dX12_clause_23 rfl ?_
        refine V_const dX12_clause_24 ?_
        refine V_icmp_eq dX12_clause_26 (fun hc26 => ?_) (fun hc26 => ?_)
        · exact go (Or.inr (Or.inr (Or.inr hc26)))
        · refine V_const dX12_clause_29 ?_
          exact V_zret dX12_clause_30 rfl (by first | exact Or.inl rfl | exact Or.inr rfl) (by decide) (by decide) (by unfold clAM at q; rw [if_neg (fun h => h.elim hc8 (fun h => h.elim hc14 (fun h => h.elim hc20 hc26)))] at q; exact q)
theorem sem_X12_clause {l : Launch} {D : va_G} {A : Nat → Prop} {z : Nat} {t : TT} {I : MI} {R : MR} {J : MI} {B : MR} {m n a c : Nat} {Φ : PP} (hM : MSt m t R) (hn : I 1231 m = nI n) (hn2 : n ≤ 200) (hc : I 1238 m = nI c) (hc40 : c < 40) (ha : a ≤ n) (q : clQM Φ z t I R J B m c (clAM (J (m + 26)) n a)) : Sem l D A 2 0 0 mX12_clause [va_rf (some m)] z t (up2 I 1232 m (nI a)) R J B Φ := by
  refine Sem.run [some (va_rf (some m)), none, none, none, none, none, none] (by decide) rfl (ent_r (ent_none (ent_none (ent_none (ent_none (ent_none (ent_none ent_nil))))))) ?_
  exact tl_X12_cl1 hM hn hn2 hc hc40 ha q
