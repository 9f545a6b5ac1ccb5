-- THE REFERENCE: eating, the week
noncomputable abbrev oldR (J : MI) (m : Nat) (p k : Int32) (of cm : Nat → Int32) (N : Nat) : Option Nat := itr (oldF J m p k of cm) 0 N none
theorem old_go {J : MI} {m : Nat} {p k : Int32} {of cm : Nat → Int32} : ∀ (n i : Nat) (o : Option Nat), (∀ b, o = some b → b < i) → ∀ b, itr (oldF J m p k of cm) i n o = some b → b < i + n
  | 0, i, o, h, b, hb => by have := h b hb; omega
  | n + 1, i, o, h, b, hb => by
    rw [itr] at hb
    have := old_go n (i + 1) _ (fun c hc => by
      by_cases q : oldC J m p k of cm i o
      · rw [oldF_t q] at hc; cases hc; omega
      · rw [oldF_f q] at hc; have := h c hc; omega) b hb
    omega
theorem old_lt {J : MI} {m : Nat} {p k : Int32} {of cm : Nat → Int32} {N b : Nat} (h : oldR J m p k of cm N = some b) : b < N := by
  have := old_go N 0 none (fun b hb => by cases hb) b h
  omega
theorem old_some {J : MI} {m : Nat} {p k : Int32} {of cm : Nat → Int32} {N : Nat} (hN : N ≤ 300) (h : ¬ oI (oldR J m p k of cm N) = -1) : ∃ l, l < N ∧ oldR J m p k of cm N = some l := by
  rw [oI_none (fun b hb => by have := old_lt hb; omega)] at h
  cases e : oldR J m p k of cm N with
  | none => exact absurd e h
  | some l => exact ⟨l, old_lt e, rfl⟩
theorem old_none {J : MI} {m : Nat} {p k : Int32} {of cm : Nat → Int32} {N : Nat} (hN : N ≤ 300) (h : oI (oldR J m p k of cm N) = -1) : oldR J m p k of cm N = none := (oI_none (fun b hb => by have := old_lt hb; omega)).mp h
/-- eating: nd rations are still wanted -/
noncomputable def eatS (m p k N : Nat) : Nat → Int32 → MI → MI → MI × MI
  | 0, _, I, J => (I, J)
  | f + 1, nd, I, J => if nd ≤ 0 then (I, J) else match oldR J m (nI p) (nI k) (J (m + 9)) (J (m + 11)) N with
    | none => (I, up2 J (m + 20) (4 * p + k) (J (m + 20) (4 * p + k) + nd))
    | some l => eatS m p k N f (nd - jmin nd (J (m + 2) k)) (up2 I 1203 m (I 1203 m + 1)) (up2 (up2 (up2 J (m + 9) l (J (m + 9) l - 1)) (m + 21) (4 * p + k) (J (m + 21) (4 * p + k) + 1)) (m + 19) (4 * p + k) (J (m + 2) k - jmin nd (J (m + 2) k)))
theorem jmin_pos {x y : Int32} (hx : ¬ x ≤ 0) (hy : 1 ≤ y) : 1 ≤ (jmin x y).toInt ∧ (jmin x y).toInt ≤ x.toInt := by
  rw [i_le] at hx hy
  have h0 : (0 : Int32).toInt = 0 := rfl
  have h1 : (1 : Int32).toInt = 1 := rfl
  unfold jmin
  split
  · rename_i h; rw [i_lt] at h; omega
  · omega
theorem sub_i {x y : Int32} (h1 : 0 ≤ y.toInt) (h2 : y.toInt ≤ x.toInt) : (x - y).toInt = x.toInt - y.toInt := by
  rw [Int32.toInt_sub]
  have := x.toInt_lt
  apply Int.bmod_eq_of_le <;> omega
theorem lp_X12_eat {l : Launch} {D : va_G} {A : Nat → Prop} {z : Nat} {t : TT} {R : MR} {B : MR} {m p k N : Nat} {Φ : PP} (hM : MSt m t R) (hp : p < 8) (hk : k < 4) (hN2 : N ≤ 300) : ∀ (f : Nat) (nd : Int32) (I J : MI), nd.toInt ≤ (f : Int) → 1 ≤ J (m + 2) k → I 1201 m = nI N → Φ none z t (eatS m p k N f nd I J).1 R (eatS m p k N f nd I J).2 B → V l D A (rmm 1 0 0) mX12_eat (KS D A 0 0 Φ) 0 0 z t I R J B 48 [some (va_rf (some m)), some (.int (nI p)), some (.int (nI k)), some (.int (nI (4 * p + k))), some (.int nd), none, none, none] [] := by
  intro f
  induction f with
  | zero =>
    intro nd I J hf hr hN q
    have hz : nd ≤ 0 := by rw [i_le]; show nd.toInt ≤ 0; omega
    refine V_iload dX12_eat_48 rfl ?_
    refine V_if_le dX12_eat_50 (fun hc50 => ?_) (fun hc50 => ?_)
    · exact V_vret dX12_eat_156 rfl (by decide) (by decide) q
    · exact absurd hz hc50
  | succ f ih =>
    intro nd I J hf hr hN q
    refine V_iload dX12_eat_48 rfl ?_
    refine V_if_le dX12_eat_50 (fun hc50 => ?_) (fun hc50 => ?_)
    · exact V_vret dX12_eat_156 rfl (by decide) (by decide) (by rw [eatS, if_pos hc50] at q; exact q)
    · refine V_aload dX12_eat_53 rfl ?_
      refine V_iload dX12_eat_54 rfl ?_
      refine V_iload dX12_eat_55 rfl ?_
      refine V_aload dX12_eat_56 rfl ?_
      refine V_getRs fk_X12_34 dX12_eat_57 hM.1 hM.a1213.1 ?_
      refine V_aload dX12_eat_60 rfl ?_
      refine V_getRs fk_X12_40 dX12_eat_61 hM.1 hM.a1215.1 ?_
      refine V_invV (As := [_, _, _, _]) mv_X12_oldest lk_X12_161 dX12_eat_64 (c := 12) (by decide) rfl rfl hM.1 rfl rfl (Nat.le_of_ble_eq_true rfl) ⟨⟨by decide, by decide⟩, by decide, by decide⟩ (sem_X12_oldest hM hN hN2 hM.a1213.2 hM.a1215.2 ?_)
      refine V_is6 dX12_eat_67 (by decide) noL_n ?_
      refine V_iload dX12_eat_69 rfl ?_
      refine V_const dX12_eat_71 ?_
      refine V_icmp_ne dX12_eat_72 (fun hc72 => ?_) (fun hc72 => ?_)
      · obtain ⟨l0, hl, hol⟩ := old_some hN2 hc72
        rw [show itr (oldF J m (nI p) (nI k) (J (m + 9)) (J (m + 11))) 0 N none = some l0 from hol]
        refine V_aload dX12_eat_87 rfl ?_
        refine V_getRs fk_X12_34 dX12_eat_88 hM.1 hM.a1213.1 ?_
        refine V_iload dX12_eat_91 rfl ?_
        refine V_dup2ir dX12_eat_93 ?_
        refine V_iald dX12_eat_94 hM.a1213.2 (i := l0) rfl (by omega) (by decide) ?_
        refine V_const dX12_eat_95 ?_
        refine V_isub dX12_eat_96 ?_
        refine V_iast dX12_eat_97 hM.a1213.2 (i := l0) rfl (by omega) (by decide) ?_
        refine V_aload dX12_eat_98 rfl ?_
        refine V_dupr dX12_eat_99 ?_
        refine V_getI fk_X12_165 dX12_eat_100 hM.1 ?_
        refine V_const dX12_eat_103 ?_
        refine V_iadd dX12_eat_104 ?_
        refine V_putI fk_X12_165 (Or.inl rfl) rfl rfl dX12_eat_105 hM.1 ?_
        refine V_aload dX12_eat_108 rfl ?_
        refine V_getRs fk_X12_70 dX12_eat_109 hM.1 hM.a1225.1 ?_
        refine V_iload dX12_eat_112 rfl ?_
        refine V_dup2ir dX12_eat_113 ?_
        refine V_ialds dX12_eat_114 hM.a1225.2 rfl (by omega) (by decide) (up2n (by omega)) ?_
        refine V_const dX12_eat_115 ?_
        refine V_iadd dX12_eat_116 ?_
        refine V_iast dX12_eat_117 hM.a1225.2 rfl (by omega) (by decide) ?_
        refine V_iload dX12_eat_118 rfl ?_
        refine V_aload dX12_eat_120 rfl ?_
        refine V_getRs fk_X12_13 dX12_eat_121 hM.1 hM.a1206.1 ?_
        refine V_iload dX12_eat_124 rfl ?_
        refine V_ialds dX12_eat_125 hM.a1206.2 rfl (by omega) (by decide) ((up2n (by omega)).trans (up2n (by omega))) ?_
        refine V_jmin dX12_eat_126 lk_X12_144 (by decide) (by decide) (by decide) (by decide) (Nat.le_of_ble_eq_true rfl) ?_
        refine V_is7 dX12_eat_129 (by decide) (noL_i _) ?_
        refine V_iload dX12_eat_131 rfl ?_
        refine V_iload dX12_eat_133 rfl ?_
        refine V_isub dX12_eat_135 ?_
        refine V_is4 dX12_eat_136 (by decide) (noL_i _) ?_
        refine V_aload dX12_eat_138 rfl ?_
        refine V_getRs fk_X12_64 dX12_eat_139 hM.1 hM.a1223.1 ?_
        refine V_iload dX12_eat_142 rfl ?_
        refine V_aload dX12_eat_143 rfl ?_
        refine V_getRs fk_X12_13 dX12_eat_144 hM.1 hM.a1206.1 ?_
        refine V_iload dX12_eat_147 rfl ?_
        refine V_ialds dX12_eat_148 hM.a1206.2 rfl (by omega) (by decide) ((up2n (by omega)).trans (up2n (by omega))) ?_
        refine V_iload dX12_eat_149 rfl ?_
        refine V_isub dX12_eat_151 ?_
        refine V_iast dX12_eat_152 hM.a1223.2 rfl (by omega) (by decide) ?_
        refine V_goto dX12_eat_153 ?_
        have hj := jmin_pos hc50 hr
        exact V.sub (lsS (lsS (lsS (lsS (lsS (lsN (lsN (lsN ls0)))))))) (ih _ _ _ (by rw [sub_i (by omega) (by omega)]; omega) (by rw [up2n (by omega), up2n (by omega), up2n (by omega)]; exact hr) ((up2n (by decide)).trans hN) (by rw [eatS, if_neg hc50, hol] at q; exact q))
      · have hol := old_none hN2 hc72
        refine V_aload dX12_eat_75 rfl ?_
        refine V_getRs fk_X12_67 dX12_eat_76 hM.1 hM.a1224.1 ?_
        refine V_iload dX12_eat_79 rfl ?_
        refine V_dup2ir dX12_eat_80 ?_
        refine V_iald dX12_eat_81 hM.a1224.2 rfl (by omega) (by decide) ?_
        refine V_iload dX12_eat_82 rfl ?_
        refine V_iadd dX12_eat_84 ?_
        refine V_iast dX12_eat_85 hM.a1224.2 rfl (by omega) (by decide) ?_
        exact V_vret dX12_eat_86 rfl (by decide) (by decide) (by rw [eatS, if_neg hc50, hol] at q; exact q)
noncomputable def eatM (m N p k : Nat) (I J : MI) : MI × MI := eatS m p k N 7000 (7 * J (m + 1) p - jmin (7 * J (m + 1) p) (J (m + 19) (4 * p + k))) I (up2 J (m + 19) (4 * p + k) (J (m + 19) (4 * p + k) - jmin (7 * J (m + 1) p) (J (m + 19) (4 * p + k))))
theorem sem_X12_eat {l : Launch} {D : va_G} {A : Nat → Prop} {z : Nat} {t : TT} {I : MI} {R : MR} {J : MI} {B : MR} {m p k N : Nat} {Φ : PP} (hM : MSt m t R) (hp : p < 8) (hk : k < 4) (hN2 : N ≤ 300) (hN : I 1201 m = nI N) (hr : 1 ≤ J (m + 2) k) (hnd : (7 * J (m + 1) p - jmin (7 * J (m + 1) p) (J (m + 19) (4 * p + k))).toInt ≤ 7000) (q : Φ none z t (eatM m N p k I J).1 R (eatM m N p k I J).2 B) : Sem l D A 1 0 0 mX12_eat [va_rf (some m), .int (nI p), .int (nI k)] z t I R J B Φ := by
  refine Sem.run [some (va_rf (some m)), some (.int (nI p)), some (.int (nI k)), none, none, none, none, none] (by decide) rfl (ent_r (ent_i (ent_i (ent_none (ent_none (ent_none (ent_none (ent_none ent_nil)))))))) ?_
  refine V_const dX12_eat_0 ?_
  refine V_iload dX12_eat_1 rfl ?_
  refine V_imul dX12_eat_2 ?_
  refine V_iload dX12_eat_3 rfl ?_
  refine V_iadd dX12_eat_4 ?_
  rw [show (4 : Int32) * nI p + nI k = nI (4 * p + k) by rw [show (4 : Int32) = nI 4 from rfl, pk_mul, nI_add]]
  refine V_is3 dX12_eat_5 (by decide) (noL_i _) ?_
  refine V_const dX12_eat_6 ?_
  refine V_aload dX12_eat_8 rfl ?_
  refine V_getRs fk_X12_9 dX12_eat_9 hM.1 hM.a1205.1 ?_
  refine V_iload dX12_eat_12 rfl ?_
  refine V_iald dX12_eat_13 hM.a1205.2 rfl (by omega) (by decide) ?_
  refine V_imul dX12_eat_14 ?_
  refine V_is4 dX12_eat_15 (by decide) (noL_i _) ?_
  refine V_iload dX12_eat_17 rfl ?_
  refine V_aload dX12_eat_19 rfl ?_
  refine V_getRs fk_X12_64 dX12_eat_20 hM.1 hM.a1223.1 ?_
  refine V_iload dX12_eat_23 rfl ?_
  refine V_iald dX12_eat_24 hM.a1223.2 rfl (by omega) (by decide) ?_
  refine V_jmin dX12_eat_25 lk_X12_144 (by decide) (by decide) (by decide) (by decide) (Nat.le_of_ble_eq_true rfl) ?_
  refine V_is5 dX12_eat_28 (by decide) (noL_i _) ?_
  refine V_aload dX12_eat_30 rfl ?_
  refine V_getRs fk_X12_64 dX12_eat_31 hM.1 hM.a1223.1 ?_
  refine V_iload dX12_eat_34 rfl ?_
  refine V_dup2ir dX12_eat_35 ?_
  refine V_iald dX12_eat_36 hM.a1223.2 rfl (by omega) (by decide) ?_
  refine V_iload dX12_eat_37 rfl ?_
  refine V_isub dX12_eat_39 ?_
  refine V_iast dX12_eat_40 hM.a1223.2 rfl (by omega) (by decide) ?_
  refine V_iload dX12_eat_41 rfl ?_
  refine V_iload dX12_eat_43 rfl ?_
  refine V_isub dX12_eat_45 ?_
  refine V_is4 dX12_eat_46 (by decide) (noL_i _) ?_
  exact V.sub (lsS (lsS (lsS (lsS (lsS (lsN (lsN (lsN ls0)))))))) (lp_X12_eat hM hp hk hN2 7000 _ _ _ hnd (by rw [up2n (by omega)]; exact hr) hN q)
/-- the first part of the reference's week: lots come, lots spoil -/
def cmM (m l : Nat) (w : Int32) (J : MI) : MI := if J (m + 11) l ≠ -1 ∧ J (m + 11) l ≤ w then up2 J (m + 11) l (-1) else J
def loM (m l k : Nat) (w : Int32) (J : MI) : Int32 := J (m + 9) l * partM (J (m + 3)) (10 * k + ageN ((w - J (m + 8) l) / 4)) (bI (¬ J (m + 11) l = -1)) / 1000
def spM (m l k g : Nat) (w : Int32) (J : MI) : MI := up2 (up2 J (m + 9) l (J (m + 9) l - loM m l k w J)) (m + 18) g (J (m + 18) g + loM m l k w J)
def wk1 (m : Nat) (kk gg : Nat → Nat) (w : Int32) (l : Nat) (J : MI) : MI := spM m l (kk l) (gg l) w (cmM m l w J)
theorem tl_X12_week {l : Launch} {D : va_G} {A : Nat → Prop} {z : Nat} {t : TT} {I : MI} {R : MR} {J : MI} {B : MR} {m i N k g : Nat} {w : Int32} {Φ : PP} (hM : MSt m t R) (hi : i < N) (hN : I 1201 m = nI N) (hN2 : N ≤ 300) (hw : I 1200 m = w) (hk : J (m + 7) i = nI k ∧ k < 4) (hg : J (m + 13) i = nI g ∧ g < 300) (hd : 0 ≤ (w - J (m + 8) i) / 4) (kk : V l D A (rmm 2 0 0) mX12_week (KS D A 0 0 Φ) 0 0 z t I R (spM m i k g w J) B 14 [some (va_rf (some m)), some (.int (nI (i + 1))), none] []) : V l D A (rmm 2 0 0) mX12_week (KS D A 0 0 Φ) 0 0 z t I R J B 52 [some (va_rf (some m)), some (.int (nI i)), none] [] := by
  refine V_aload dX12_week_52 rfl ?_
  refine V_getRs fk_X12_34 dX12_week_53 hM.1 hM.a1213.1 ?_
  refine V_iload dX12_week_56 rfl ?_
  refine V_iald dX12_week_57 hM.a1213.2 rfl (by omega) (by decide) ?_
  refine V_aload dX12_week_58 rfl ?_
  refine V_aload dX12_week_59 rfl ?_
  refine V_getRs fk_X12_28 dX12_week_60 hM.1 hM.a1211.1 ?_
  refine V_iload dX12_week_63 rfl ?_
  refine V_ialds dX12_week_64 hM.a1211.2 rfl (by omega) (by decide) hk.1 ?_
  refine V_aload dX12_week_65 rfl ?_
  refine V_getIs fk_X12_131 dX12_week_66 hM.1 hw ?_
  refine V_aload dX12_week_69 rfl ?_
  refine V_getRs fk_X12_31 dX12_week_70 hM.1 hM.a1212.1 ?_
  refine V_iload dX12_week_73 rfl ?_
  refine V_iald dX12_week_74 hM.a1212.2 rfl (by omega) (by decide) ?_
  refine V_aload dX12_week_75 rfl ?_
  refine V_getRs fk_X12_40 dX12_week_76 hM.1 hM.a1215.1 ?_
  refine V_iload dX12_week_79 rfl ?_
  refine V_iald dX12_week_80 hM.a1215.2 rfl (by omega) (by decide) ?_
  refine V_const dX12_week_81 ?_
  refine V_icmp_eq dX12_week_82 (fun hc82 => ?_) (fun hc82 => ?_)
  · refine V_const dX12_week_89 ?_
    refine V_invV (As := [_, _, _, _]) mv_X12_part lk_X12_150 dX12_week_90 (c := 12) (by decide) rfl rfl hM.1 rfl rfl (Nat.le_of_ble_eq_true rfl) ⟨⟨by decide, by decide⟩, by decide, by decide⟩ (sem_X12_part hM hk.2 hd ?_)
    refine V_imul dX12_week_93 ?_
    refine V_const dX12_week_94 ?_
    refine V_idiv dX12_week_97 (by decide) ?_
    refine V_is2 dX12_week_98 (by decide) (noL_i _) ?_
    refine V_aload dX12_week_99 rfl ?_
    refine V_getRs fk_X12_34 dX12_week_100 hM.1 hM.a1213.1 ?_
    refine V_iload dX12_week_103 rfl ?_
    refine V_dup2ir dX12_week_104 ?_
    refine V_iald dX12_week_105 hM.a1213.2 rfl (by omega) (by decide) ?_
    refine V_iload dX12_week_106 rfl ?_
    refine V_isub dX12_week_107 ?_
    refine V_iast dX12_week_108 hM.a1213.2 rfl (by omega) (by decide) ?_
    refine V_aload dX12_week_109 rfl ?_
    refine V_getRs fk_X12_61 dX12_week_110 hM.1 hM.a1222.1 ?_
    refine V_aload dX12_week_113 rfl ?_
    refine V_getRs fk_X12_46 dX12_week_114 hM.1 hM.a1217.1 ?_
    refine V_iload dX12_week_117 rfl ?_
    refine V_ialds dX12_week_118 hM.a1217.2 rfl (by omega) (by decide) ((up2n (by omega)).trans hg.1) ?_
    refine V_dup2ir dX12_week_119 ?_
    refine V_ialds dX12_week_120 hM.a1222.2 rfl hg.2 (by decide) (up2n (by omega)) ?_
    refine V_iload dX12_week_121 rfl ?_
    refine V_iadd dX12_week_122 ?_
    refine V_iast dX12_week_123 hM.a1222.2 rfl hg.2 (by decide) ?_
    refine V_ii1 dX12_week_124 (by decide) (noL_r _) ?_
    refine V_goto dX12_week_127 ?_
    exact V.sub (lsS (lsE (by rw [nI_1]) (lsN ls0))) (by unfold spM loM at kk; rw [bI_f (fun h => h hc82)] at kk; exact kk)
  · refine V_const dX12_week_85 ?_
    refine V_goto dX12_week_86 ?_
    refine V_invV (As := [_, _, _, _]) mv_X12_part lk_X12_150 dX12_week_90 (c := 12) (by decide) rfl rfl hM.1 rfl rfl (Nat.le_of_ble_eq_true rfl) ⟨⟨by decide, by decide⟩, by decide, by decide⟩ (sem_X12_part hM hk.2 hd ?_)
    refine V_imul dX12_week_93 ?_
    refine V_const dX12_week_94 ?_
    refine V_idiv dX12_week_97 (by decide) ?_
    refine V_is2 dX12_week_98 (by decide) (noL_i _) ?_
    refine V_aload dX12_week_99 rfl ?_
    refine V_getRs fk_X12_34 dX12_week_100 hM.1 hM.a1213.1 ?_
    refine V_iload dX12_week_103 rfl ?_
    refine V_dup2ir dX12_week_104 ?_
    refine V_iald dX12_week_105 hM.a1213.2 rfl (by omega) (by decide) ?_
    refine V_iload dX12_week_106 rfl ?_
    refine V_isub dX12_week_107 ?_
    refine V_iast dX12_week_108 hM.a1213.2 rfl (by omega) (by decide) ?_
    refine V_aload dX12_week_109 rfl ?_
    refine V_getRs fk_X12_61 dX12_week_110 hM.1 hM.a1222.1 ?_
    refine V_aload dX12_week_113 rfl ?_
    refine V_getRs fk_X12_46 dX12_week_114 hM.1 hM.a1217.1 ?_
    refine V_iload dX12_week_117 rfl ?_
    refine V_ialds dX12_week_118 hM.a1217.2 rfl (by omega) (by decide) ((up2n (by omega)).trans hg.1) ?_
    refine V_dup2ir dX12_week_119 ?_
    refine V_ialds dX12_week_120 hM.a1222.2 rfl hg.2 (by decide) (up2n (by omega)) ?_
    refine V_iload dX12_week_121 rfl ?_
    refine V_iadd dX12_week_122 ?_
    refine V_iast dX12_week_123 hM.a1222.2 rfl hg.2 (by decide) ?_
    refine V_ii1 dX12_week_124 (by decide) (noL_r _) ?_
    refine V_goto dX12_week_127 ?_
    exact V.sub (lsS (lsE (by rw [nI_1]) (lsN ls0))) (by unfold spM loM at kk; rw [bI_t hc82] at kk; exact kk)
theorem lp_X12_week1 {l : Launch} {D : va_G} {A : Nat → Prop} {z : Nat} {t : TT} {I : MI} {R : MR} {B : MR} {m N : Nat} {w : Int32} {kf gf : Nat → Nat} {K7 K8 K13 : Nat → Int32} {Φ : PP} (hM : MSt m t R) (hN : I 1201 m = nI N) (hN2 : N ≤ 300) (hw : I 1200 m = w) (hk : ∀ l, l < N → K7 l = nI (kf l) ∧ kf l < 4) (hg : ∀ l, l < N → K13 l = nI (gf l) ∧ gf l < 300) (hd : ∀ l, l < N → 0 ≤ (w - K8 l) / 4) : ∀ (n i : Nat) (J : MI), J (m + 7) = K7 → J (m + 8) = K8 → J (m + 13) = K13 → i + n = N → V l D A (rmm 2 0 0) mX12_week (KS D A 0 0 Φ) 0 0 z t I R (itr (wk1 m kf gf w) i n J) B 130 [some (va_rf (some m)), none, none] [] → V l D A (rmm 2 0 0) mX12_week (KS D A 0 0 Φ) 0 0 z t I R J B 14 [some (va_rf (some m)), some (.int (nI i)), none] [] := by
  intro n
  induction n with
  | zero =>
    intro i J h7 h8 h13 hin kk
    have hi : i = N := by omega
    subst hi
    refine V_iload dX12_week_14 rfl ?_
    refine V_aload dX12_week_15 rfl ?_
    refine V_getIs fk_X12_126 dX12_week_16 hM.1 hN ?_
    refine V_icmp_ge dX12_week_19 (fun hc19 => ?_) (fun hc19 => ?_)
    · exact V.sub (lsS (lsN (lsN ls0))) kk
    · exact absurd (Int32.le_refl _) hc19
  | succ n ih =>
    intro i J h7 h8 h13 hin kk
    have hi : i < N := by omega
    have c7 : cmM m i w J (m + 7) = K7 := by rw [← h7]; unfold cmM; split <;> first | rfl | exact up2_ne _ _ _ (by omega)
    have c8 : cmM m i w J (m + 8) = K8 := by rw [← h8]; unfold cmM; split <;> first | rfl | exact up2_ne _ _ _ (by omega)
    have c13 : cmM m i w J (m + 13) = K13 := by rw [← h13]; unfold cmM; split <;> first | rfl | exact up2_ne _ _ _ (by omega)
    have go : V l D A (rmm 2 0 0) mX12_week (KS D A 0 0 Φ) 0 0 z t I R (cmM m i w J) B 52 [some (va_rf (some m)), some (.int (nI i)), none] [] := by
      refine tl_X12_week (k := kf i) (g := gf i) hM hi hN hN2 hw (by rw [c7]; exact hk i hi) (by rw [c13]; exact hg i hi) (by rw [c8]; exact hd i hi) ?_
      refine ih (i + 1) _ ?_ ?_ ?_ (by omega) kk
      · unfold spM; rw [up2_ne _ _ _ (by omega), up2_ne _ _ _ (by omega)]; exact c7
      · unfold spM; rw [up2_ne _ _ _ (by omega), up2_ne _ _ _ (by omega)]; exact c8
      · unfold spM; rw [up2_ne _ _ _ (by omega), up2_ne _ _ _ (by omega)]; exact c13
    refine V_iload dX12_week_14 rfl ?_
    refine V_aload dX12_week_15 rfl ?_
    refine V_getIs fk_X12_126 dX12_week_16 hM.1 hN ?_
    refine V_icmp_ge dX12_week_19 (fun hc19 => ?_) (fun hc19 => ?_)
    · exact absurd hc19 (nI_ge (by omega) (by omega))
    · refine V_aload dX12_week_22 rfl ?_
      refine V_getRs fk_X12_40 dX12_week_23 hM.1 hM.a1215.1 ?_
      refine V_iload dX12_week_26 rfl ?_
      refine V_iald dX12_week_27 hM.a1215.2 rfl (by omega) (by decide) ?_
      refine V_const dX12_week_28 ?_
      refine V_icmp_eq dX12_week_29 (fun hc29 => ?_) (fun hc29 => ?_)
      · rw [show cmM m i w J = J from if_neg (fun h => h.1 hc29)] at go; exact go
      · refine V_aload dX12_week_32 rfl ?_
        refine V_getRs fk_X12_40 dX12_week_33 hM.1 hM.a1215.1 ?_
        refine V_iload dX12_week_36 rfl ?_
        refine V_iald dX12_week_37 hM.a1215.2 rfl (by omega) (by decide) ?_
        refine V_aload dX12_week_38 rfl ?_
        refine V_getIs fk_X12_131 dX12_week_39 hM.1 hw ?_
        refine V_icmp_gt dX12_week_42 (fun hc42 => ?_) (fun hc42 => ?_)
        · rw [show cmM m i w J = J from if_neg (fun h => by have h1 := h.2; rw [i_le] at h1; rw [i_lt] at hc42; omega)] at go; exact go
        · refine V_aload dX12_week_45 rfl ?_
          refine V_getRs fk_X12_40 dX12_week_46 hM.1 hM.a1215.1 ?_
          refine V_iload dX12_week_49 rfl ?_
          refine V_const dX12_week_50 ?_
          refine V_iast dX12_week_51 hM.a1215.2 rfl (by omega) (by decide) ?_
          rw [show cmM m i w J = up2 J (m + 11) i (-1) from if_pos ⟨hc29, by rw [i_lt] at hc42; rw [i_le]; omega⟩] at go; exact go
