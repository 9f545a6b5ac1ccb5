-- THE LAW: its loop
set_option maxHeartbeats 8000000 in
theorem law_loop {l : Launch} {D : va_G} {b L h0 x m : Nat} {xs : Nat → Int32} (hL : L ≤ 3584) (hx : h0 ≤ x) : ∀ (f j z : Nat) (t : TT) (I : MI) (R : MR) (J : MI) (B : MR), L ≤ 7 * (j + f) → 7 * j ≤ L → Ok x m z t I R J B → V l D (Ah h0) room_1 mL_law (KL b L h0 xs) (177 + 5 * j) (20400 + 141 * j) z t I R J B 18 [some (va_rf (some b)), some (va_rf (some x)), some (va_rf (some m)), some (.int (nI (7 * j)))] [] := by
  intro f
  induction f with
  | zero =>
    intro j z t I R J B h1 h2 hO
    have hsub : (nI L - 7 : Int32).toInt = (L : Int) - 7 := by
      rw [Int32.toInt_sub, nI_toInt (by omega), show (7 : Int32).toInt = 7 from rfl]
      apply Int.bmod_eq_of_le <;> omega
    refine V_iload dL_law_18 rfl ?_
    refine V_aload dL_law_19 rfl ?_
    refine V_slen dL_law_20 ?_
    refine V_const dL_law_21 ?_
    refine V_isub dL_law_23 ?_
    refine V_icmp_gt dL_law_24 (fun hc24 => ?_) (fun hc24 => ?_)
    · refine V_const dL_law_1088 ?_
      exact V_lret dL_law_1089 (by omega) (by omega)
    · exfalso
      rw [i_lt, hsub, nI_toInt (by omega)] at hc24
      omega
  | succ f ih =>
    intro j z t I R J B h1 h2 hO
    have hsub : (nI L - 7 : Int32).toInt = (L : Int) - 7 := by
      rw [Int32.toInt_sub, nI_toInt (by omega), show (7 : Int32).toInt = 7 from rfl]
      apply Int.bmod_eq_of_le <;> omega
    refine V_iload dL_law_18 rfl ?_
    refine V_aload dL_law_19 rfl ?_
    refine V_slen dL_law_20 ?_
    refine V_const dL_law_21 ?_
    refine V_isub dL_law_23 ?_
    refine V_icmp_gt dL_law_24 (fun hc24 => ?_) (fun hc24 => ?_)
    · refine V_const dL_law_1088 ?_
      exact V_lret dL_law_1089 (by omega) (by omega)
    · have hi : 7 * j + 7 ≤ L := by
        rw [i_lt, hsub, nI_toInt (by omega)] at hc24
        omega
      have kk : ∀ (z : Nat) (t : TT) (I : MI) (R : MR) (J : MI) (B : MR), Ok x m z t I R J B → V l D (Ah h0) room_1 mL_law (KL b L h0 xs) (177 + 5 * (j + 1)) (20400 + 141 * (j + 1)) z t I R J B 1082 [some (va_rf (some b)), some (va_rf (some x)), some (va_rf (some m)), some (.int (nI (7 * j)))] [] := fun z t I R J B hO => by
        refine V_ii3 dL_law_1082 (by decide) (noL_r _) ?_
        refine V_goto dL_law_1085 ?_
        exact V.sub (lsS (lsS (lsS (lsE (congrArg (fun q => some (Value.int q)) (nI_add (7 * j) 7)) ls0)))) (ih (j + 1) z t I R J B (by omega) (by omega) hO)
      refine V_aload dL_law_27 rfl ?_
      refine V_iload dL_law_28 rfl ?_
      refine V_sld dL_law_29 rfl (by omega) hL ?_
      refine V_const dL_law_30 ?_
      refine V_iand dL_law_32 ?_
      refine V_tsw (N := 26) (dt := 1082) (fun i => match i with | 0 => 152 | 1 => 185 | 2 => 218 | 3 => 261 | 4 => 304 | 5 => 337 | 6 => 412 | 7 => 455 | 8 => 468 | 9 => 501 | 10 => 534 | 11 => 567 | 12 => 600 | 13 => 643 | 14 => 666 | 15 => 729 | 16 => 752 | 17 => 765 | 18 => 788 | 19 => 861 | 20 => 884 | 21 => 907 | 22 => 930 | 23 => 983 | 24 => 1016 | _ => 1059) dL_law_33 (by decide) (by decide) (by decide) (by decide +kernel) (fun i9 hi9 hx9 => ?_) (fun ho9 => ?_)
      · rcases (show i9 = 0 ∨ i9 = 1 ∨ i9 = 2 ∨ i9 = 3 ∨ i9 = 4 ∨ i9 = 5 ∨ i9 = 6 ∨ i9 = 7 ∨ i9 = 8 ∨ i9 = 9 ∨ i9 = 10 ∨ i9 = 11 ∨ i9 = 12 ∨ i9 = 13 ∨ i9 = 14 ∨ i9 = 15 ∨ i9 = 16 ∨ i9 = 17 ∨ i9 = 18 ∨ i9 = 19 ∨ i9 = 20 ∨ i9 = 21 ∨ i9 = 22 ∨ i9 = 23 ∨ i9 = 24 ∨ i9 = 25 by omega) with rfl | rfl | rfl | rfl | rfl | rfl | rfl | rfl | rfl | rfl | rfl | rfl | rfl | rfl | rfl | rfl | rfl | rfl | rfl | rfl | rfl | rfl | rfl | rfl | rfl | rfl
        · exact lw_men hO hx hi hL (by omega) kk
        · exact lw_rations hO hx hi hL (by omega) kk
        · exact lw_spoils hO hx hi hL (by omega) kk
        · exact lw_way hO hx hi hL (by omega) kk
        · exact lw_lag hO hx hi hL (by omega) kk
        · exact lw_buy hO hx hi hL (by omega) kk
        · exact lw_send hO hx hi hL (by omega) kk
        · exact lw_week hO hx hi hL (by omega) kk
        · exact lw_lot hO hx hi hL (by omega) kk
        · exact lw_stock hO hx hi hL (by omega) kk
        · exact lw_open hO hx hi hL (by omega) kk
        · exact lw_lacks hO hx hi hL (by omega) kk
        · exact lw_known hO hx hi hL (by omega) kk
        · exact lw_lasts hO hx hi hL (by omega) kk
        · exact lw_feed hO hx hi hL (by omega) kk
        · exact lw_end hO hx hi hL (by omega) kk
        · exact lw_fault hO hx hi hL (by omega) kk
        · exact lw_contract hO hx hi hL (by omega) kk
        · exact lw_draw hO hx hi hL (by omega) kk
        · exact lw_due hO hx hi hL (by omega) kk
        · exact lw_owed hO hx hi hL (by omega) kk
        · exact lw_condemned hO hx hi hL (by omega) kk
        · exact lw_survey hO hx hi hL (by omega) kk
        · exact lw_balance hO hx hi hL (by omega) kk
        · exact lw_began hO hx hi hL (by omega) kk
        · exact lw_count hO hx hi hL (by omega) kk
      · exact V.widen (by omega) (by omega) (kk _ _ _ _ _ _ hO)
theorem Xt_of {A : Array Value} {s : State} (hts : ∀ w ∈ lw_tbl, w.before A s = true) : Xt s := by
  have g : ∀ (i : Nat) (w : Cond), tables_1[i]? = some w → w.before A s = true := fun i w h => hts w (List.mem_append_right _ (List.mem_of_getElem? h))
  refine ⟨?_, va_AO.of (g 24 _ (by decide +kernel)), va_AO.of (g 26 _ (by decide +kernel)), va_AO.of (g 28 _ (by decide +kernel)), va_AO.of (g 132 _ (by decide +kernel)), va_AO.of (g 174 _ (by decide +kernel)), (show (Cond.arrayOver (.array .int)).before A s = true from g 30 _ (by decide +kernel))⟩
  intro w hw
  simp only [nests, List.mem_cons, List.not_mem_nil, or_false] at hw
  rcases hw with rfl | rfl | rfl | rfl | rfl
  · exact va_Nw.of (by decide +kernel) (g 78 _ (by decide +kernel))
  · exact va_Nw.of (by decide +kernel) (g 387 _ (by decide +kernel))
  · exact va_Nw.of (by decide +kernel) (g 506 _ (by decide +kernel))
  · exact va_Nw.of (by decide +kernel) (g 531 _ (by decide +kernel))
  · exact va_Nw.of (by decide +kernel) (g 544 _ (by decide +kernel))
theorem Kn_of {A : Array Value} {s : State} (hts : ∀ w ∈ gtb, w.before A s = true) : ∃ D : va_G, va_K D classes [] s := by
  have hi : ∀ c, c < 13 → (Cond.instantiable (Cc c) (Nc c)).before A s = true := by
    intro c hc
    rcases (show c = 0 ∨ c = 1 ∨ c = 2 ∨ c = 3 ∨ c = 4 ∨ c = 5 ∨ c = 6 ∨ c = 7 ∨ c = 8 ∨ c = 9 ∨ c = 10 ∨ c = 11 ∨ c = 12 by omega) with rfl | rfl | rfl | rfl | rfl | rfl | rfl | rfl | rfl | rfl | rfl | rfl | rfl
    · exact hts _ wn_X0
    · exact hts _ wn_X1
    · exact hts _ wn_X2
    · exact hts _ wn_X3
    · exact hts _ wn_X4
    · exact hts _ wn_X5
    · exact hts _ wn_X6
    · exact hts _ wn_X7
    · exact hts _ wn_X8
    · exact hts _ wn_X9
    · exact hts _ wn_X10
    · exact hts _ wn_X11
    · exact hts _ wn_X12
  have h : ∀ c : Nat, ∃ q : ClassId × (Nat → Nat), c < 13 → u_Kn s (Cc c) (Tc c) (Nc c) q.1 q.2 := fun c => by
    by_cases hc : c < 13
    · obtain ⟨cC, iS, h⟩ := u_known hts (cl_ok c hc).2.1 (hi c hc)
      exact ⟨(cC, iS), fun _ => h⟩
    · obtain ⟨cC, iS, -⟩ := u_known hts (cl_ok 0 (by decide)).2.1 (hi 0 (by decide))
      exact ⟨(cC, iS), fun q => absurd q hc⟩
  obtain ⟨d, hd⟩ := Classical.axiomOfChoice h
  refine ⟨(fun c => (d c).1, fun c => (d c).2), fun c q hq => ?_, fun k q hk => by simp at hk⟩
  have hc : c < 13 := (List.getElem?_eq_some_iff.mp hq).1
  have e := (cl_ok c hc).1
  rw [hq] at e
  cases e
  exact hd c hc
