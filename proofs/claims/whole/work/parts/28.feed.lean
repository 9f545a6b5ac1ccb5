-- FEEDING, on both sides
theorem adS_le {x : Int32} : ∀ (n i : Nat) (s : Nat × (Nat → Int32)), s.1 ≤ 200 → (itr (adS x) i n s).1 ≤ 200
  | 0, _, _, h => h
  | n + 1, i, s, h => by
    rw [itr]
    refine adS_le n (i + 1) _ ?_
    unfold adS
    split
    · exact h
    · split
      · rename_i h2; show s.1 + 1 ≤ 200; omega
      · exact h
def adX (x : Int32) (s : Nat × (Nat → Int32)) : Nat × (Nat → Int32) := itr (adS x) 0 4 s
def fdX (a b c d e : Int32) (s : Nat × (Nat → Int32)) : Nat × (Nat → Int32) := adX e (adX d (adX c (adX b (adX a s))))
def moX (a b c d e : Int32) : Int32 := itr (cbS a) 0 4 0 + itr (cbS b) 0 4 0 + itr (cbS c) 0 4 0 + itr (cbS d) 0 4 0 + itr (cbS e) 0 4 0
theorem adX_le {x : Int32} {s : Nat × (Nat → Int32)} (h : s.1 ≤ 200) : (adX x s).1 ≤ 200 := adS_le 4 0 s h
set_option maxHeartbeats 4000000 in
theorem sem_X11_feed {l : Launch} {D : va_G} {A : Nat → Prop} {z : Nat} {t : TT} {I : MI} {R : MR} {J : MI} {B : MR} {x n : Nat} {a b c d e : Int32} {Φ : PP} (hX : XSt x t I R B) (hn : I 1001 (x + 129) = nI n) (hn2 : n ≤ 200) (q0 : ¬ nI n + moX a b c d e ≤ 200 → Φ (some (.int (-1))) z t I R J B) (q : nI n + moX a b c d e ≤ 200 → Φ (some (.int (nI (fdX a b c d e (n, J (x + 130))).1))) z t (up2 I 1001 (x + 129) (nI (fdX a b c d e (n, J (x + 130))).1)) R (va_up J (x + 130) (fdX a b c d e (n, J (x + 130))).2) B) : Sem l D A 2 0 0 mX11_feed [va_rf (some x), .int a, .int b, .int c, .int d, .int e] z t I R J B Φ := by
  refine Sem.run [some (va_rf (some x)), some (.int a), some (.int b), some (.int c), some (.int d), some (.int e), none] (by decide) rfl (ent_r (ent_i (ent_i (ent_i (ent_i (ent_i (ent_none ent_nil))))))) ?_
  refine V_iload dX11_feed_0 rfl ?_
  refine V_invS (As := [_]) ms_X11_bytesIn lk_X11_221 dX11_feed_1 rfl rfl rfl (Nat.le_of_ble_eq_true rfl) ⟨⟨by decide, by decide⟩, by decide, by decide⟩ (sem_X11_bytesIn ?_)
  refine V_iload dX11_feed_4 rfl ?_
  refine V_invS (As := [_]) ms_X11_bytesIn lk_X11_221 dX11_feed_5 rfl rfl rfl (Nat.le_of_ble_eq_true rfl) ⟨⟨by decide, by decide⟩, by decide, by decide⟩ (sem_X11_bytesIn ?_)
  refine V_iadd dX11_feed_8 ?_
  refine V_iload dX11_feed_9 rfl ?_
  refine V_invS (As := [_]) ms_X11_bytesIn lk_X11_221 dX11_feed_10 rfl rfl rfl (Nat.le_of_ble_eq_true rfl) ⟨⟨by decide, by decide⟩, by decide, by decide⟩ (sem_X11_bytesIn ?_)
  refine V_iadd dX11_feed_13 ?_
  refine V_iload dX11_feed_14 rfl ?_
  refine V_invS (As := [_]) ms_X11_bytesIn lk_X11_221 dX11_feed_16 rfl rfl rfl (Nat.le_of_ble_eq_true rfl) ⟨⟨by decide, by decide⟩, by decide, by decide⟩ (sem_X11_bytesIn ?_)
  refine V_iadd dX11_feed_19 ?_
  refine V_iload dX11_feed_20 rfl ?_
  refine V_invS (As := [_]) ms_X11_bytesIn lk_X11_221 dX11_feed_22 rfl rfl rfl (Nat.le_of_ble_eq_true rfl) ⟨⟨by decide, by decide⟩, by decide, by decide⟩ (sem_X11_bytesIn ?_)
  refine V_iadd dX11_feed_25 ?_
  refine V_is6 dX11_feed_26 (by decide) (noL_i _) ?_
  refine V_aload dX11_feed_28 rfl ?_
  refine V_getRs fk_X11_54 dX11_feed_29 hX.hx hX.tp.1 ?_
  refine V_getIs fk_X11_224 dX11_feed_32 hX.tp.2.1 hn ?_
  refine V_iload dX11_feed_35 rfl ?_
  refine V_iadd dX11_feed_37 ?_
  refine V_const dX11_feed_38 ?_
  refine V_icmp_le dX11_feed_41 (fun hc41 => ?_) (fun hc41 => ?_)
  · refine V_aload dX11_feed_46 rfl ?_
    refine V_getRs fk_X11_54 dX11_feed_47 hX.hx hX.tp.1 ?_
    refine V_iload dX11_feed_50 rfl ?_
    refine V_invV (As := [_]) mv_X10_addBytesOf lk_X11_227 dX11_feed_51 (c := 10) (by decide) rfl rfl hX.tp.2.1 rfl rfl (Nat.le_of_ble_eq_true rfl) ⟨⟨by decide, by decide⟩, by decide, by decide⟩ (sem_X10_addBytesOf hX.tp.2.1 hX.tp.2.2.1 hX.tp.2.2.2 hn hn2 ?_)
    refine V_aload dX11_feed_54 rfl ?_
    refine V_getRs fk_X11_54 dX11_feed_55 hX.hx hX.tp.1 ?_
    refine V_iload dX11_feed_58 rfl ?_
    refine V_invV (As := [_]) mv_X10_addBytesOf lk_X11_227 dX11_feed_59 (c := 10) (by decide) rfl rfl hX.tp.2.1 rfl rfl (Nat.le_of_ble_eq_true rfl) ⟨⟨by decide, by decide⟩, by decide, by decide⟩ (sem_X10_addBytesOf hX.tp.2.1 hX.tp.2.2.1 hX.tp.2.2.2 (n := (adX a (n, J (x + 130))).1) up2s (adX_le hn2) ?_)
    rw [up2_uu, va_up_self, bx_uu]
    refine V_aload dX11_feed_62 rfl ?_
    refine V_getRs fk_X11_54 dX11_feed_63 hX.hx hX.tp.1 ?_
    refine V_iload dX11_feed_66 rfl ?_
    refine V_invV (As := [_]) mv_X10_addBytesOf lk_X11_227 dX11_feed_67 (c := 10) (by decide) rfl rfl hX.tp.2.1 rfl rfl (Nat.le_of_ble_eq_true rfl) ⟨⟨by decide, by decide⟩, by decide, by decide⟩ (sem_X10_addBytesOf hX.tp.2.1 hX.tp.2.2.1 hX.tp.2.2.2 (n := (adX b (adX a (n, J (x + 130)))).1) up2s (adX_le (adX_le hn2)) ?_)
    rw [up2_uu, va_up_self, bx_uu]
    refine V_aload dX11_feed_70 rfl ?_
    refine V_getRs fk_X11_54 dX11_feed_71 hX.hx hX.tp.1 ?_
    refine V_iload dX11_feed_74 rfl ?_
    refine V_invV (As := [_]) mv_X10_addBytesOf lk_X11_227 dX11_feed_76 (c := 10) (by decide) rfl rfl hX.tp.2.1 rfl rfl (Nat.le_of_ble_eq_true rfl) ⟨⟨by decide, by decide⟩, by decide, by decide⟩ (sem_X10_addBytesOf hX.tp.2.1 hX.tp.2.2.1 hX.tp.2.2.2 (n := (adX c (adX b (adX a (n, J (x + 130))))).1) up2s (adX_le (adX_le (adX_le hn2))) ?_)
    rw [up2_uu, va_up_self, bx_uu]
    refine V_aload dX11_feed_79 rfl ?_
    refine V_getRs fk_X11_54 dX11_feed_80 hX.hx hX.tp.1 ?_
    refine V_iload dX11_feed_83 rfl ?_
    refine V_invV (As := [_]) mv_X10_addBytesOf lk_X11_227 dX11_feed_85 (c := 10) (by decide) rfl rfl hX.tp.2.1 rfl rfl (Nat.le_of_ble_eq_true rfl) ⟨⟨by decide, by decide⟩, by decide, by decide⟩ (sem_X10_addBytesOf hX.tp.2.1 hX.tp.2.2.1 hX.tp.2.2.2 (n := (adX d (adX c (adX b (adX a (n, J (x + 130)))))).1) up2s (adX_le (adX_le (adX_le (adX_le hn2)))) ?_)
    rw [up2_uu, va_up_self, bx_uu]
    refine V_aload dX11_feed_88 rfl ?_
    refine V_getRs fk_X11_54 dX11_feed_89 hX.hx hX.tp.1 ?_
    refine V_getIs fk_X11_224 dX11_feed_92 hX.tp.2.1 up2s ?_
    exact V_iret dX11_feed_95 rfl (by decide) (by decide) (q hc41)
  · refine V_const dX11_feed_44 ?_
    exact V_iret dX11_feed_45 rfl (by decide) (by decide) (q0 hc41)
def mbV (w k : Int32) : Int32 := (w >>> ((24 - 8 * (k - k / 4 * 4)) &&& 31)) &&& 255
def mbW (a b c d e k : Int32) : Int32 := if k < 4 then a else if k < 8 then b else if k < 12 then c else if k < 16 then d else e
theorem sem_X12_byteOf {l : Launch} {D : va_G} {A : Nat → Prop} {z : Nat} {t : TT} {I : MI} {R : MR} {J : MI} {B : MR} {a b c d e k : Int32} {Φ : PP}  (q : Φ (some (.int (mbV (mbW a b c d e k) k))) z t I R J B) : Sem l D A 0 0 0 mX12_byteOf [.int a, .int b, .int c, .int d, .int e, .int k] z t I R J B Φ := by
  refine Sem.run [some (.int a), some (.int b), some (.int c), some (.int d), some (.int e), some (.int k), none] (by decide) rfl (ent_i (ent_i (ent_i (ent_i (ent_i (ent_i (ent_none ent_nil))))))) ?_
  refine V_iload dX12_byteOf_0 rfl ?_
  refine V_const dX12_byteOf_2 ?_
  refine V_icmp_ge dX12_byteOf_3 (fun hc3 => ?_) (fun hc3 => ?_)
  · refine V_iload dX12_byteOf_10 rfl ?_
    refine V_const dX12_byteOf_12 ?_
    refine V_icmp_ge dX12_byteOf_14 (fun hc14 => ?_) (fun hc14 => ?_)
    · refine V_iload dX12_byteOf_21 rfl ?_
      refine V_const dX12_byteOf_23 ?_
      refine V_icmp_ge dX12_byteOf_25 (fun hc25 => ?_) (fun hc25 => ?_)
      · refine V_iload dX12_byteOf_32 rfl ?_
        refine V_const dX12_byteOf_34 ?_
        refine V_icmp_ge dX12_byteOf_36 (fun hc36 => ?_) (fun hc36 => ?_)
        · refine V_iload dX12_byteOf_43 rfl ?_
          refine V_is6 dX12_byteOf_45 (by decide) (noL_i _) ?_
          refine V_iload dX12_byteOf_47 rfl ?_
          refine V_const dX12_byteOf_49 ?_
          refine V_const dX12_byteOf_51 ?_
          refine V_iload dX12_byteOf_53 rfl ?_
          refine V_const dX12_byteOf_55 ?_
          refine V_irem dX12_byteOf_56 (by decide) ?_
          refine V_imul dX12_byteOf_57 ?_
          refine V_isub dX12_byteOf_58 ?_
          refine V_ishr dX12_byteOf_59 ?_
          refine V_const dX12_byteOf_60 ?_
          refine V_iand dX12_byteOf_63 ?_
          exact V_iret dX12_byteOf_64 rfl (by decide) (by decide) (by unfold mbW at q; rw [if_neg (fun h => by rw [i_lt] at h; rw [i_le] at hc3; omega)] at q; rw [if_neg (fun h => by rw [i_lt] at h; rw [i_le] at hc14; omega)] at q; rw [if_neg (fun h => by rw [i_lt] at h; rw [i_le] at hc25; omega)] at q; rw [if_neg (fun h => by rw [i_lt] at h; rw [i_le] at hc36; omega)] at q; exact q)
        · refine V_iload dX12_byteOf_39 rfl ?_
          refine V_goto dX12_byteOf_40 ?_
          refine V_is6 dX12_byteOf_45 (by decide) (noL_i _) ?_
          refine V_iload dX12_byteOf_47 rfl ?_
          refine V_const dX12_byteOf_49 ?_
          refine V_const dX12_byteOf_51 ?_
          refine V_iload dX12_byteOf_53 rfl ?_
          refine V_const dX12_byteOf_55 ?_
          refine V_irem dX12_byteOf_56 (by decide) ?_
          refine V_imul dX12_byteOf_57 ?_
          refine V_isub dX12_byteOf_58 ?_
          refine V_ishr dX12_byteOf_59 ?_
          refine V_const dX12_byteOf_60 ?_
          refine V_iand dX12_byteOf_63 ?_
          exact V_iret dX12_byteOf_64 rfl (by decide) (by decide) (by unfold mbW at q; rw [if_neg (fun h => by rw [i_lt] at h; rw [i_le] at hc3; omega)] at q; rw [if_neg (fun h => by rw [i_lt] at h; rw [i_le] at hc14; omega)] at q; rw [if_neg (fun h => by rw [i_lt] at h; rw [i_le] at hc25; omega)] at q; rw [if_pos (by rw [i_le] at hc36; rw [i_lt]; omega)] at q; exact q)
      · refine V_iload dX12_byteOf_28 rfl ?_
        refine V_goto dX12_byteOf_29 ?_
        refine V_is6 dX12_byteOf_45 (by decide) (noL_i _) ?_
        refine V_iload dX12_byteOf_47 rfl ?_
        refine V_const dX12_byteOf_49 ?_
        refine V_const dX12_byteOf_51 ?_
        refine V_iload dX12_byteOf_53 rfl ?_
        refine V_const dX12_byteOf_55 ?_
        refine V_irem dX12_byteOf_56 (by decide) ?_
        refine V_imul dX12_byteOf_57 ?_
        refine V_isub dX12_byteOf_58 ?_
        refine V_ishr dX12_byteOf_59 ?_
        refine V_const dX12_byteOf_60 ?_
        refine V_iand dX12_byteOf_63 ?_
        exact V_iret dX12_byteOf_64 rfl (by decide) (by decide) (by unfold mbW at q; rw [if_neg (fun h => by rw [i_lt] at h; rw [i_le] at hc3; omega)] at q; rw [if_neg (fun h => by rw [i_lt] at h; rw [i_le] at hc14; omega)] at q; rw [if_pos (by rw [i_le] at hc25; rw [i_lt]; omega)] at q; exact q)
    · refine V_iload dX12_byteOf_17 rfl ?_
      refine V_goto dX12_byteOf_18 ?_
      refine V_is6 dX12_byteOf_45 (by decide) (noL_i _) ?_
      refine V_iload dX12_byteOf_47 rfl ?_
      refine V_const dX12_byteOf_49 ?_
      refine V_const dX12_byteOf_51 ?_
      refine V_iload dX12_byteOf_53 rfl ?_
      refine V_const dX12_byteOf_55 ?_
      refine V_irem dX12_byteOf_56 (by decide) ?_
      refine V_imul dX12_byteOf_57 ?_
      refine V_isub dX12_byteOf_58 ?_
      refine V_ishr dX12_byteOf_59 ?_
      refine V_const dX12_byteOf_60 ?_
      refine V_iand dX12_byteOf_63 ?_
      exact V_iret dX12_byteOf_64 rfl (by decide) (by decide) (by unfold mbW at q; rw [if_neg (fun h => by rw [i_lt] at h; rw [i_le] at hc3; omega)] at q; rw [if_pos (by rw [i_le] at hc14; rw [i_lt]; omega)] at q; exact q)
  · refine V_iload dX12_byteOf_6 rfl ?_
    refine V_goto dX12_byteOf_7 ?_
    refine V_is6 dX12_byteOf_45 (by decide) (noL_i _) ?_
    refine V_iload dX12_byteOf_47 rfl ?_
    refine V_const dX12_byteOf_49 ?_
    refine V_const dX12_byteOf_51 ?_
    refine V_iload dX12_byteOf_53 rfl ?_
    refine V_const dX12_byteOf_55 ?_
    refine V_irem dX12_byteOf_56 (by decide) ?_
    refine V_imul dX12_byteOf_57 ?_
    refine V_isub dX12_byteOf_58 ?_
    refine V_ishr dX12_byteOf_59 ?_
    refine V_const dX12_byteOf_60 ?_
    refine V_iand dX12_byteOf_63 ?_
    exact V_iret dX12_byteOf_64 rfl (by decide) (by decide) (by unfold mbW at q; rw [if_pos (by rw [i_le] at hc3; rw [i_lt]; omega)] at q; exact q)
def mbB (a b c d e : Int32) (k : Nat) : Int32 := mbV (mbW a b c d e (nI k)) (nI k)
def cbM (a b c d e : Int32) (k : Nat) (s : Int32) : Int32 := s + (if mbB a b c d e k = 0 then 0 else 1)
def adM (a b c d e : Int32) (k : Nat) (s : Nat × (Nat → Int32)) : Nat × (Nat → Int32) := if mbB a b c d e k = 0 then s else (s.1 + 1, va_up s.2 s.1 (mbB a b c d e k))
theorem lp_X12_feed1 {l : Launch} {D : va_G} {A : Nat → Prop} {z : Nat} {t : TT} {I : MI} {R : MR} {J : MI} {B : MR} {m : Nat} {a b c d e : Int32} {Φ : PP} (hM : MSt m t R) : ∀ (n i : Nat) (s : Int32), i + n = 20 → V l D A (rmm 1 0 0) mX12_feed (KS D A 0 0 Φ) 0 0 z t I R J B 44 [some (va_rf (some m)), some (.int a), some (.int b), some (.int c), some (.int d), some (.int e), some (.int (itr (cbM a b c d e) i n s)), none, none] [] → V l D A (rmm 1 0 0) mX12_feed (KS D A 0 0 Φ) 0 0 z t I R J B 6 [some (va_rf (some m)), some (.int a), some (.int b), some (.int c), some (.int d), some (.int e), some (.int s), some (.int (nI i)), none] [] := by
  intro n
  induction n with
  | zero =>
    intro i s hin q
    have hi : i = 20 := by omega
    subst hi
    refine V_iload dX12_feed_6 rfl ?_
    refine V_const dX12_feed_8 ?_
    refine V_icmp_ge dX12_feed_10 (fun hc10 => ?_) (fun hc10 => ?_)
    · exact V.sub (lsS (lsS (lsS (lsS (lsS (lsS (lsS (lsN (lsN ls0))))))))) q
    · exact absurd (show (20 : Int32) ≤ nI 20 from Int32.le_refl _) hc10
  | succ n ih =>
    intro i s hin q
    refine V_iload dX12_feed_6 rfl ?_
    refine V_const dX12_feed_8 ?_
    refine V_icmp_ge dX12_feed_10 (fun hc10 => ?_) (fun hc10 => ?_)
    · exact absurd hc10 (show ¬ nI 20 ≤ nI i from nI_ge (by omega) (by decide))
    · refine V_iload dX12_feed_13 rfl ?_
      refine V_iload dX12_feed_15 rfl ?_
      refine V_iload dX12_feed_16 rfl ?_
      refine V_iload dX12_feed_17 rfl ?_
      refine V_iload dX12_feed_18 rfl ?_
      refine V_iload dX12_feed_20 rfl ?_
      refine V_iload dX12_feed_22 rfl ?_
      refine V_invS (As := [_, _, _, _, _, _]) ms_X12_byteOf lk_X12_172 dX12_feed_24 rfl rfl rfl (Nat.le_of_ble_eq_true rfl) ⟨⟨by decide, by decide⟩, by decide, by decide⟩ (sem_X12_byteOf ?_)
      refine V_if_eq dX12_feed_27 (fun hc27 => ?_) (fun hc27 => ?_)
      · refine V_const dX12_feed_34 ?_
        refine V_iadd dX12_feed_35 ?_
        refine V_is6 dX12_feed_36 (by decide) (noL_i _) ?_
        refine V_ii7 dX12_feed_38 (by decide) (noL_i _) ?_
        refine V_goto dX12_feed_41 ?_
        exact V.sub (lsS (lsS (lsS (lsS (lsS (lsS (lsS (lsE (by rw [nI_1]) (lsN ls0))))))))) (ih (i + 1) _ (by omega) (by rw [itr] at q; unfold cbM at q; rw [if_pos (show mbB a b c d e i = 0 from hc27)] at q; exact q))
      · refine V_const dX12_feed_30 ?_
        refine V_goto dX12_feed_31 ?_
        refine V_iadd dX12_feed_35 ?_
        refine V_is6 dX12_feed_36 (by decide) (noL_i _) ?_
        refine V_ii7 dX12_feed_38 (by decide) (noL_i _) ?_
        refine V_goto dX12_feed_41 ?_
        exact V.sub (lsS (lsS (lsS (lsS (lsS (lsS (lsS (lsE (by rw [nI_1]) (lsN ls0))))))))) (ih (i + 1) _ (by omega) (by rw [itr] at q; unfold cbM at q; rw [if_neg (show ¬ mbB a b c d e i = 0 from hc27)] at q; exact q))
theorem lp_X12_feed2 {l : Launch} {D : va_G} {A : Nat → Prop} {z : Nat} {t : TT} {I : MI} {R : MR} {J : MI} {B : MR} {m : Nat} {a b c d e x6 : Int32} {Φ : PP} (hM : MSt m t R) : ∀ (n i : Nat) (s : Nat × (Nat → Int32)), s.1 ≤ 200 + i → i + n = 20 → Φ (some (.int (nI (itr (adM a b c d e) i n s).1))) z t (up2 I 1231 m (nI (itr (adM a b c d e) i n s).1)) R (va_up J (m + 26) (itr (adM a b c d e) i n s).2) B → V l D A (rmm 1 0 0) mX12_feed (KS D A 0 0 Φ) 0 0 z t (up2 I 1231 m (nI s.1)) R (va_up J (m + 26) s.2) B 62 [some (va_rf (some m)), some (.int a), some (.int b), some (.int c), some (.int d), some (.int e), some (.int x6), some (.int (nI i)), none] [] := by
  intro n
  induction n with
  | zero =>
    intro i s hs hin q
    have hi : i = 20 := by omega
    subst hi
    refine V_iload dX12_feed_62 rfl ?_
    refine V_const dX12_feed_64 ?_
    refine V_icmp_ge dX12_feed_66 (fun hc66 => ?_) (fun hc66 => ?_)
    · refine V_aload dX12_feed_115 rfl ?_
      refine V_getIs fk_X12_176 dX12_feed_116 hM.1 up2s ?_
      exact V_iret dX12_feed_119 rfl (by decide) (by decide) q
    · exact absurd (show (20 : Int32) ≤ nI 20 from Int32.le_refl _) hc66
  | succ n ih =>
    intro i s hs hin q
    refine V_iload dX12_feed_62 rfl ?_
    refine V_const dX12_feed_64 ?_
    refine V_icmp_ge dX12_feed_66 (fun hc66 => ?_) (fun hc66 => ?_)
    · exact absurd hc66 (show ¬ nI 20 ≤ nI i from nI_ge (by omega) (by decide))
    · refine V_iload dX12_feed_69 rfl ?_
      refine V_iload dX12_feed_70 rfl ?_
      refine V_iload dX12_feed_71 rfl ?_
      refine V_iload dX12_feed_72 rfl ?_
      refine V_iload dX12_feed_74 rfl ?_
      refine V_iload dX12_feed_76 rfl ?_
      refine V_invS (As := [_, _, _, _, _, _]) ms_X12_byteOf lk_X12_172 dX12_feed_78 rfl rfl rfl (Nat.le_of_ble_eq_true rfl) ⟨⟨by decide, by decide⟩, by decide, by decide⟩ (sem_X12_byteOf ?_)
      refine V_is8 dX12_feed_81 (by decide) (noL_i _) ?_
      refine V_iload dX12_feed_83 rfl ?_
      refine V_if_eq dX12_feed_85 (fun hc85 => ?_) (fun hc85 => ?_)
      · refine V_ii7 dX12_feed_109 (by decide) (noL_i _) ?_
        refine V_goto dX12_feed_112 ?_
        exact V.sub (lsS (lsS (lsS (lsS (lsS (lsS (lsS (lsE (by rw [nI_1]) (lsN ls0))))))))) (ih (i + 1) s (by omega) (by omega) (by rw [itr, show adM a b c d e i s = s from if_pos hc85] at q; exact q))
      · refine V_aload dX12_feed_88 rfl ?_
        refine V_getRs fk_X12_85 dX12_feed_89 hM.1 hM.a1230.1 ?_
        refine V_aload dX12_feed_92 rfl ?_
        refine V_getIs fk_X12_176 dX12_feed_93 hM.1 up2s ?_
        refine V_iload dX12_feed_96 rfl ?_
        refine V_iast dX12_feed_98 hM.a1230.2 rfl (by omega) (by decide) ?_
        refine V_aload dX12_feed_99 rfl ?_
        refine V_dupr dX12_feed_100 ?_
        refine V_getIs fk_X12_176 dX12_feed_101 hM.1 up2s ?_
        refine V_const dX12_feed_104 ?_
        refine V_iadd dX12_feed_105 ?_
        refine V_putI fk_X12_176 (Or.inl rfl) rfl rfl dX12_feed_106 hM.1 ?_
        refine V_ii7 dX12_feed_109 (by decide) (noL_i _) ?_
        refine V_goto dX12_feed_112 ?_
        rw [up2_uu, nI_1]
        unfold up2
        rw [va_up_self, bx_uu]
        rw [← show up2 I 1231 m (nI (s.1 + 1)) = va_up I 1231 (va_up (I 1231) m (nI (s.1 + 1))) from rfl]
        exact V.sub (lsS (lsS (lsS (lsS (lsS (lsS (lsS (lsE (by rw [nI_1]) (lsN ls0))))))))) (ih (i + 1) (s.1 + 1, va_up s.2 s.1 (mbB a b c d e i)) (by show s.1 + 1 ≤ 200 + (i + 1); omega) (by omega) (by rw [itr, show adM a b c d e i s = (s.1 + 1, va_up s.2 s.1 (mbB a b c d e i)) from if_neg hc85] at q; exact q))
theorem sem_X12_feed {l : Launch} {D : va_G} {A : Nat → Prop} {z : Nat} {t : TT} {I : MI} {R : MR} {J : MI} {B : MR} {m n : Nat} {a b c d e : Int32} {Φ : PP} (hM : MSt m t R) (hn : I 1231 m = nI n) (hn2 : n ≤ 200) (q0 : ¬ nI n + itr (cbM a b c d e) 0 20 0 ≤ 200 → Φ (some (.int (-1))) z t I R J B) (q : nI n + itr (cbM a b c d e) 0 20 0 ≤ 200 → Φ (some (.int (nI (itr (adM a b c d e) 0 20 (n, J (m + 26))).1))) z t (up2 I 1231 m (nI (itr (adM a b c d e) 0 20 (n, J (m + 26))).1)) R (va_up J (m + 26) (itr (adM a b c d e) 0 20 (n, J (m + 26))).2) B) : Sem l D A 1 0 0 mX12_feed [va_rf (some m), .int a, .int b, .int c, .int d, .int e] z t I R J B Φ := by
  refine Sem.run [some (va_rf (some m)), some (.int a), some (.int b), some (.int c), some (.int d), some (.int e), none, none, none] (by decide) rfl (ent_r (ent_i (ent_i (ent_i (ent_i (ent_i (ent_none (ent_none (ent_none ent_nil))))))))) ?_
  refine V_const dX12_feed_0 ?_
  refine V_is6 dX12_feed_1 (by decide) (noL_i _) ?_
  refine V_const dX12_feed_3 ?_
  refine V_is7 dX12_feed_4 (by decide) (noL_i _) ?_
  refine V.sub (lsS (lsS (lsS (lsS (lsS (lsS (lsS (lsS (lsN ls0))))))))) (lp_X12_feed1 hM 20 0 0 (by omega) ?_)
  refine V_aload dX12_feed_44 rfl ?_
  refine V_getIs fk_X12_176 dX12_feed_45 hM.1 hn ?_
  refine V_iload dX12_feed_48 rfl ?_
  refine V_iadd dX12_feed_50 ?_
  refine V_const dX12_feed_51 ?_
  refine V_icmp_le dX12_feed_54 (fun hc54 => ?_) (fun hc54 => ?_)
  · refine V_const dX12_feed_59 ?_
    refine V_is7 dX12_feed_60 (by decide) (noL_i _) ?_
    have h := lp_X12_feed2 (l := l) (D := D) (A := A) (z := z) (J := J) (I := I) (B := B) (Φ := Φ) (a := a) (b := b) (c := c) (d := d) (e := e) (x6 := itr (cbM a b c d e) 0 20 0) hM 20 0 (n, J (m + 26)) (by show n ≤ 200 + 0; omega) (by omega) (q hc54)
    rw [show up2 I 1231 m (nI (n, J (m + 26)).1) = I by show up2 I 1231 m (nI n) = I; rw [← hn, up2_same], show va_up J (m + 26) (n, J (m + 26)).2 = J from va_same J (m + 26)] at h
    exact V.sub (lsS (lsS (lsS (lsS (lsS (lsS (lsS (lsS (lsN ls0))))))))) h
  · refine V_const dX12_feed_57 ?_
    exact V_iret dX12_feed_58 rfl (by decide) (by decide) (q0 hc54)
