-- FEED
def fsM (s : Nat × (Nat → Int32)) (b : Int32) : Nat × (Nat → Int32) := if b = 0 then s else (s.1 + 1, va_up s.2 s.1 b)
def fsX (s : Nat × (Nat → Int32)) (b : Int32) : Nat × (Nat → Int32) := if b = 0 then s else if s.1 < 200 then (s.1 + 1, va_up s.2 s.1 b) else s
def nz : List Int32 → Nat
  | [] => 0
  | b :: l => (if b = 0 then 0 else 1) + nz l
theorem nz_len : ∀ l : List Int32, nz l ≤ l.length
  | [] => Nat.le_refl _
  | b :: l => by rw [nz, List.length_cons]; have := nz_len l; split <;> omega
theorem fs_eq : ∀ (l : List Int32) (s : Nat × (Nat → Int32)), s.1 + nz l ≤ 200 → l.foldl fsX s = l.foldl fsM s ∧ (l.foldl fsM s).1 = s.1 + nz l
  | [], s, _ => ⟨rfl, rfl⟩
  | b :: l, s, h => by
    rw [nz] at h ⊢
    rw [List.foldl_cons, List.foldl_cons]
    by_cases e : b = 0
    · rw [if_pos e] at h ⊢
      rw [show fsX s b = s from if_pos e, show fsM s b = s from if_pos e]
      obtain ⟨h1, h2⟩ := fs_eq l s (by omega)
      exact ⟨h1, by rw [h2]; omega⟩
    · rw [if_neg e] at h ⊢
      rw [show fsX s b = (s.1 + 1, va_up s.2 s.1 b) by unfold fsX; rw [if_neg e, if_pos (by omega)], show fsM s b = (s.1 + 1, va_up s.2 s.1 b) from if_neg e]
      obtain ⟨h1, h2⟩ := fs_eq l (s.1 + 1, va_up s.2 s.1 b) (by show s.1 + 1 + nz l ≤ 200; omega)
      exact ⟨h1, by rw [h2]; show s.1 + 1 + nz l = _; omega⟩
theorem sh_eq (x : BitVec 32) (s : Nat) (hs : s ≤ 24) : x.sshiftRight s &&& 255#32 = x >>> s &&& 255#32 := by
  apply BitVec.eq_of_getLsbD_eq
  intro i hi
  rw [BitVec.getLsbD_and, BitVec.getLsbD_and, BitVec.getLsbD_sshiftRight, BitVec.getLsbD_ushiftRight]
  by_cases h8 : i < 8
  · rw [if_pos (show s + i < 32 by omega)]
    simp [show ¬ 32 ≤ i by omega]
  · have : (255#32).getLsbD i = false := by
      rw [BitVec.getLsbD_ofNat]
      have h9 : Nat.testBit 255 i = false := Nat.testBit_lt_two_pow (Nat.lt_of_lt_of_le (by decide : 255 < 2 ^ 8) (Nat.pow_le_pow_right (by decide) (by omega)))
      simp [h9]
    rw [this, Bool.and_false, Bool.and_false]
theorem by_eq (x : Int32) (a : Int32) (b : UInt32) (s : Nat) (hs : s ≤ 24) (ha : a = Int32.ofNat s) (hb : b = UInt32.ofNat s) : (x >>> a) &&& 255 = (x.toUInt32 >>> b).toInt32 &&& 255 := by
  subst ha
  subst hb
  apply Int32.toBitVec_inj.mp
  rw [Int32.toBitVec_and, Int32.toBitVec_and, Int32.toBitVec_shiftRight]
  have e1 : (x.toUInt32 >>> UInt32.ofNat s).toInt32.toBitVec = x.toBitVec >>> s := by
    show (x.toUInt32 >>> UInt32.ofNat s).toBitVec = _
    rw [UInt32.toBitVec_shiftRight]
    show x.toBitVec >>> ((UInt32.ofNat s).toBitVec % 32) = x.toBitVec >>> s
    rw [BitVec.ushiftRight_eq', BitVec.toNat_umod]
    congr 1
    show (s % 2 ^ 32) % 32 = s
    omega
  have e2 : x.toBitVec.sshiftRight' ((Int32.ofNat s).toBitVec.smod 32) = x.toBitVec.sshiftRight s := by
    rcases (show s = 0 ∨ s = 1 ∨ s = 2 ∨ s = 3 ∨ s = 4 ∨ s = 5 ∨ s = 6 ∨ s = 7 ∨ s = 8 ∨ s = 9 ∨ s = 10 ∨ s = 11 ∨ s = 12 ∨ s = 13 ∨ s = 14 ∨ s = 15 ∨ s = 16 ∨ s = 17 ∨ s = 18 ∨ s = 19 ∨ s = 20 ∨ s = 21 ∨ s = 22 ∨ s = 23 ∨ s = 24 by omega) with h | h | h | h | h | h | h | h | h | h | h | h | h | h | h | h | h | h | h | h | h | h | h | h | h <;> subst h <;> rfl
  rw [e1, e2]
  exact sh_eq _ s hs
theorem jb_0 (x : Int32) : (x >>> (24 : Int32)) &&& 255 = jb x (nI 0) := by_eq x 24 ((8 * (3 - nI 0)).toUInt32 &&& Int32.toUInt32 31) 24 (by decide) (by decide +kernel) (by decide +kernel)
theorem jb_1 (x : Int32) : (x >>> (16 : Int32)) &&& 255 = jb x (nI 1) := by_eq x 16 ((8 * (3 - nI 1)).toUInt32 &&& Int32.toUInt32 31) 16 (by decide) (by decide +kernel) (by decide +kernel)
theorem jb_2 (x : Int32) : (x >>> (8 : Int32)) &&& 255 = jb x (nI 2) := by_eq x 8 ((8 * (3 - nI 2)).toUInt32 &&& Int32.toUInt32 31) 8 (by decide) (by decide +kernel) (by decide +kernel)
theorem jb_3 (x : Int32) : (x >>> (0 : Int32)) &&& 255 = jb x (nI 3) := by_eq x 0 ((8 * (3 - nI 3)).toUInt32 &&& Int32.toUInt32 31) 0 (by decide) (by decide +kernel) (by decide +kernel)
theorem mb_0 (a b c d e : Int32) : mbB a b c d e 0 = jb a (nI 0) := by
  rw [← jb_0]
  show (mbW a b c d e (nI 0) >>> ((24 - 8 * (nI 0 - nI 0 / 4 * 4)) &&& 31)) &&& 255 = _
  rw [show ((24 : Int32) - 8 * (nI 0 - nI 0 / 4 * 4)) &&& 31 = 24 by decide +kernel]
  unfold mbW
  rw [if_pos (by decide +kernel)]
theorem mb_1 (a b c d e : Int32) : mbB a b c d e 1 = jb a (nI 1) := by
  rw [← jb_1]
  show (mbW a b c d e (nI 1) >>> ((24 - 8 * (nI 1 - nI 1 / 4 * 4)) &&& 31)) &&& 255 = _
  rw [show ((24 : Int32) - 8 * (nI 1 - nI 1 / 4 * 4)) &&& 31 = 16 by decide +kernel]
  unfold mbW
  rw [if_pos (by decide +kernel)]
theorem mb_2 (a b c d e : Int32) : mbB a b c d e 2 = jb a (nI 2) := by
  rw [← jb_2]
  show (mbW a b c d e (nI 2) >>> ((24 - 8 * (nI 2 - nI 2 / 4 * 4)) &&& 31)) &&& 255 = _
  rw [show ((24 : Int32) - 8 * (nI 2 - nI 2 / 4 * 4)) &&& 31 = 8 by decide +kernel]
  unfold mbW
  rw [if_pos (by decide +kernel)]
theorem mb_3 (a b c d e : Int32) : mbB a b c d e 3 = jb a (nI 3) := by
  rw [← jb_3]
  show (mbW a b c d e (nI 3) >>> ((24 - 8 * (nI 3 - nI 3 / 4 * 4)) &&& 31)) &&& 255 = _
  rw [show ((24 : Int32) - 8 * (nI 3 - nI 3 / 4 * 4)) &&& 31 = 0 by decide +kernel]
  unfold mbW
  rw [if_pos (by decide +kernel)]
theorem mb_4 (a b c d e : Int32) : mbB a b c d e 4 = jb b (nI 0) := by
  rw [← jb_0]
  show (mbW a b c d e (nI 4) >>> ((24 - 8 * (nI 4 - nI 4 / 4 * 4)) &&& 31)) &&& 255 = _
  rw [show ((24 : Int32) - 8 * (nI 4 - nI 4 / 4 * 4)) &&& 31 = 24 by decide +kernel]
  unfold mbW
  rw [if_neg (by decide +kernel), if_pos (by decide +kernel)]
theorem mb_5 (a b c d e : Int32) : mbB a b c d e 5 = jb b (nI 1) := by
  rw [← jb_1]
  show (mbW a b c d e (nI 5) >>> ((24 - 8 * (nI 5 - nI 5 / 4 * 4)) &&& 31)) &&& 255 = _
  rw [show ((24 : Int32) - 8 * (nI 5 - nI 5 / 4 * 4)) &&& 31 = 16 by decide +kernel]
  unfold mbW
  rw [if_neg (by decide +kernel), if_pos (by decide +kernel)]
theorem mb_6 (a b c d e : Int32) : mbB a b c d e 6 = jb b (nI 2) := by
  rw [← jb_2]
  show (mbW a b c d e (nI 6) >>> ((24 - 8 * (nI 6 - nI 6 / 4 * 4)) &&& 31)) &&& 255 = _
  rw [show ((24 : Int32) - 8 * (nI 6 - nI 6 / 4 * 4)) &&& 31 = 8 by decide +kernel]
  unfold mbW
  rw [if_neg (by decide +kernel), if_pos (by decide +kernel)]
theorem mb_7 (a b c d e : Int32) : mbB a b c d e 7 = jb b (nI 3) := by
  rw [← jb_3]
  show (mbW a b c d e (nI 7) >>> ((24 - 8 * (nI 7 - nI 7 / 4 * 4)) &&& 31)) &&& 255 = _
  rw [show ((24 : Int32) - 8 * (nI 7 - nI 7 / 4 * 4)) &&& 31 = 0 by decide +kernel]
  unfold mbW
  rw [if_neg (by decide +kernel), if_pos (by decide +kernel)]
theorem mb_8 (a b c d e : Int32) : mbB a b c d e 8 = jb c (nI 0) := by
  rw [← jb_0]
  show (mbW a b c d e (nI 8) >>> ((24 - 8 * (nI 8 - nI 8 / 4 * 4)) &&& 31)) &&& 255 = _
  rw [show ((24 : Int32) - 8 * (nI 8 - nI 8 / 4 * 4)) &&& 31 = 24 by decide +kernel]
  unfold mbW
  rw [if_neg (by decide +kernel), if_neg (by decide +kernel), if_pos (by decide +kernel)]
theorem mb_9 (a b c d e : Int32) : mbB a b c d e 9 = jb c (nI 1) := by
  rw [← jb_1]
  show (mbW a b c d e (nI 9) >>> ((24 - 8 * (nI 9 - nI 9 / 4 * 4)) &&& 31)) &&& 255 = _
  rw [show ((24 : Int32) - 8 * (nI 9 - nI 9 / 4 * 4)) &&& 31 = 16 by decide +kernel]
  unfold mbW
  rw [if_neg (by decide +kernel), if_neg (by decide +kernel), if_pos (by decide +kernel)]
theorem mb_10 (a b c d e : Int32) : mbB a b c d e 10 = jb c (nI 2) := by
  rw [← jb_2]
  show (mbW a b c d e (nI 10) >>> ((24 - 8 * (nI 10 - nI 10 / 4 * 4)) &&& 31)) &&& 255 = _
  rw [show ((24 : Int32) - 8 * (nI 10 - nI 10 / 4 * 4)) &&& 31 = 8 by decide +kernel]
  unfold mbW
  rw [if_neg (by decide +kernel), if_neg (by decide +kernel), if_pos (by decide +kernel)]
theorem mb_11 (a b c d e : Int32) : mbB a b c d e 11 = jb c (nI 3) := by
  rw [← jb_3]
  show (mbW a b c d e (nI 11) >>> ((24 - 8 * (nI 11 - nI 11 / 4 * 4)) &&& 31)) &&& 255 = _
  rw [show ((24 : Int32) - 8 * (nI 11 - nI 11 / 4 * 4)) &&& 31 = 0 by decide +kernel]
  unfold mbW
  rw [if_neg (by decide +kernel), if_neg (by decide +kernel), if_pos (by decide +kernel)]
theorem mb_12 (a b c d e : Int32) : mbB a b c d e 12 = jb d (nI 0) := by
  rw [← jb_0]
  show (mbW a b c d e (nI 12) >>> ((24 - 8 * (nI 12 - nI 12 / 4 * 4)) &&& 31)) &&& 255 = _
  rw [show ((24 : Int32) - 8 * (nI 12 - nI 12 / 4 * 4)) &&& 31 = 24 by decide +kernel]
  unfold mbW
  rw [if_neg (by decide +kernel), if_neg (by decide +kernel), if_neg (by decide +kernel), if_pos (by decide +kernel)]
theorem mb_13 (a b c d e : Int32) : mbB a b c d e 13 = jb d (nI 1) := by
  rw [← jb_1]
  show (mbW a b c d e (nI 13) >>> ((24 - 8 * (nI 13 - nI 13 / 4 * 4)) &&& 31)) &&& 255 = _
  rw [show ((24 : Int32) - 8 * (nI 13 - nI 13 / 4 * 4)) &&& 31 = 16 by decide +kernel]
  unfold mbW
  rw [if_neg (by decide +kernel), if_neg (by decide +kernel), if_neg (by decide +kernel), if_pos (by decide +kernel)]
theorem mb_14 (a b c d e : Int32) : mbB a b c d e 14 = jb d (nI 2) := by
  rw [← jb_2]
  show (mbW a b c d e (nI 14) >>> ((24 - 8 * (nI 14 - nI 14 / 4 * 4)) &&& 31)) &&& 255 = _
  rw [show ((24 : Int32) - 8 * (nI 14 - nI 14 / 4 * 4)) &&& 31 = 8 by decide +kernel]
  unfold mbW
  rw [if_neg (by decide +kernel), if_neg (by decide +kernel), if_neg (by decide +kernel), if_pos (by decide +kernel)]
theorem mb_15 (a b c d e : Int32) : mbB a b c d e 15 = jb d (nI 3) := by
  rw [← jb_3]
  show (mbW a b c d e (nI 15) >>> ((24 - 8 * (nI 15 - nI 15 / 4 * 4)) &&& 31)) &&& 255 = _
  rw [show ((24 : Int32) - 8 * (nI 15 - nI 15 / 4 * 4)) &&& 31 = 0 by decide +kernel]
  unfold mbW
  rw [if_neg (by decide +kernel), if_neg (by decide +kernel), if_neg (by decide +kernel), if_pos (by decide +kernel)]
theorem mb_16 (a b c d e : Int32) : mbB a b c d e 16 = jb e (nI 0) := by
  rw [← jb_0]
  show (mbW a b c d e (nI 16) >>> ((24 - 8 * (nI 16 - nI 16 / 4 * 4)) &&& 31)) &&& 255 = _
  rw [show ((24 : Int32) - 8 * (nI 16 - nI 16 / 4 * 4)) &&& 31 = 24 by decide +kernel]
  unfold mbW
  rw [if_neg (by decide +kernel), if_neg (by decide +kernel), if_neg (by decide +kernel), if_neg (by decide +kernel)]
theorem mb_17 (a b c d e : Int32) : mbB a b c d e 17 = jb e (nI 1) := by
  rw [← jb_1]
  show (mbW a b c d e (nI 17) >>> ((24 - 8 * (nI 17 - nI 17 / 4 * 4)) &&& 31)) &&& 255 = _
  rw [show ((24 : Int32) - 8 * (nI 17 - nI 17 / 4 * 4)) &&& 31 = 16 by decide +kernel]
  unfold mbW
  rw [if_neg (by decide +kernel), if_neg (by decide +kernel), if_neg (by decide +kernel), if_neg (by decide +kernel)]
theorem mb_18 (a b c d e : Int32) : mbB a b c d e 18 = jb e (nI 2) := by
  rw [← jb_2]
  show (mbW a b c d e (nI 18) >>> ((24 - 8 * (nI 18 - nI 18 / 4 * 4)) &&& 31)) &&& 255 = _
  rw [show ((24 : Int32) - 8 * (nI 18 - nI 18 / 4 * 4)) &&& 31 = 8 by decide +kernel]
  unfold mbW
  rw [if_neg (by decide +kernel), if_neg (by decide +kernel), if_neg (by decide +kernel), if_neg (by decide +kernel)]
theorem mb_19 (a b c d e : Int32) : mbB a b c d e 19 = jb e (nI 3) := by
  rw [← jb_3]
  show (mbW a b c d e (nI 19) >>> ((24 - 8 * (nI 19 - nI 19 / 4 * 4)) &&& 31)) &&& 255 = _
  rw [show ((24 : Int32) - 8 * (nI 19 - nI 19 / 4 * 4)) &&& 31 = 0 by decide +kernel]
  unfold mbW
  rw [if_neg (by decide +kernel), if_neg (by decide +kernel), if_neg (by decide +kernel), if_neg (by decide +kernel)]
def byL (a b c d e : Int32) : List Int32 := [jb a (nI 0), jb a (nI 1), jb a (nI 2), jb a (nI 3), jb b (nI 0), jb b (nI 1), jb b (nI 2), jb b (nI 3), jb c (nI 0), jb c (nI 1), jb c (nI 2), jb c (nI 3), jb d (nI 0), jb d (nI 1), jb d (nI 2), jb d (nI 3), jb e (nI 0), jb e (nI 1), jb e (nI 2), jb e (nI 3)]
theorem adS_eq (x : Int32) (i : Nat) (s : Nat × (Nat → Int32)) : adS x i s = fsX s (jb x (nI i)) := rfl
theorem adM_eq (a b c d e : Int32) (k : Nat) (s : Nat × (Nat → Int32)) : adM a b c d e k s = fsM s (mbB a b c d e k) := rfl
theorem ad4 (x : Int32) (s : Nat × (Nat → Int32)) : adX x s = fsX (fsX (fsX (fsX s (jb x (nI 0))) (jb x (nI 1))) (jb x (nI 2))) (jb x (nI 3)) := by
  simp only [adX, itr, adS_eq, Nat.zero_add, Nat.reduceAdd]
theorem fd_X (a b c d e : Int32) (s : Nat × (Nat → Int32)) : fdX a b c d e s = (byL a b c d e).foldl fsX s := by
  simp only [fdX, ad4, byL, List.foldl_cons, List.foldl_nil]
theorem fd_M (a b c d e : Int32) (s : Nat × (Nat → Int32)) : itr (adM a b c d e) 0 20 s = (byL a b c d e).foldl fsM s := by
  simp only [itr, adM_eq, Nat.zero_add, Nat.reduceAdd, byL, List.foldl_cons, List.foldl_nil, mb_0, mb_1, mb_2, mb_3, mb_4, mb_5, mb_6, mb_7, mb_8, mb_9, mb_10, mb_11, mb_12, mb_13, mb_14, mb_15, mb_16, mb_17, mb_18, mb_19]
def nzI (b : Int32) : Int32 := if b = 0 then 0 else 1
def sI : List Int32 → Int32
  | [] => 0
  | b :: l => nzI b + sI l
theorem sI_nz : ∀ l : List Int32, sI l = nI (nz l)
  | [] => rfl
  | b :: l => by
    rw [sI, nz, ← nI_add, sI_nz l]
    unfold nzI
    split <;> rfl
theorem cbS_eq (x : Int32) (i : Nat) (s : Int32) : cbS x i s = s + nzI (jb x (nI i)) := by
  unfold cbS nzI
  split <;> simp
theorem cb4 (x : Int32) : itr (cbS x) 0 4 0 = sI [jb x (nI 0), jb x (nI 1), jb x (nI 2), jb x (nI 3)] := by
  show cbS x 3 (cbS x 2 (cbS x 1 (cbS x 0 0))) = _
  simp only [cbS_eq, sI, Int32.add_zero, Int32.zero_add, Int32.add_assoc]
theorem mo_X (a b c d e : Int32) : moX a b c d e = nI (nz (byL a b c d e)) := by
  rw [← sI_nz]
  unfold moX
  rw [cb4, cb4, cb4, cb4, cb4]
  simp only [byL, sI, Int32.add_zero, Int32.add_assoc]
theorem mo_M (a b c d e : Int32) : itr (cbM a b c d e) 0 20 0 = nI (nz (byL a b c d e)) := by
  rw [← sI_nz, sm_itr0 (st := cbM a b c d e) (f := fun k => nzI (mbB a b c d e k)) (fun _ _ => rfl)]
  show sm (fun k => nzI (mbB a b c d e k)) [0, 1, 2, 3, 4, 5, 6, 7, 8, 9, 10, 11, 12, 13, 14, 15, 16, 17, 18, 19] = _
  simp only [sm, byL, sI, mb_0, mb_1, mb_2, mb_3, mb_4, mb_5, mb_6, mb_7, mb_8, mb_9, mb_10, mb_11, mb_12, mb_13, mb_14, mb_15, mb_16, mb_17, mb_18, mb_19]
theorem st_feed {l : Launch} {D : va_G} {A : Nat → Prop} {x m z : Nat} {t : TT} {I : MI} {R : MR} {J : MI} {B : MR} {a b c d e : Int32} (h : Ok x m z t I R J B) : Pr l D A 2 0 0 1 mX11_feed mX12_feed [.int a, .int b, .int c, .int d, .int e] x m z t I R J B := by
  have hO := h
  obtain ⟨n, w, la, si, L, ns, sv, tn, co, ct, cc, ⟨hm, hz⟩, hX, hM, hP, hN, hW, hL, hC, hS, hK, hU, hT, hQ⟩ := h
  have ht2 := hT.2.2.1
  refine sem_X11_feed hX hT.1 hT.2.2.1 (fun ho => ?_) (fun hv => ?_)
  · exact ⟨_, rfl, hM.1, sem_X12_feed hM hT.2.1 hT.2.2.1 (fun _ => ⟨rfl, hO⟩) (fun hv => absurd (by rw [mo_X, ← mo_M]; exact hv) ho)⟩
  · refine ⟨_, rfl, hM.1, sem_X12_feed hM ((up2n (by decide)).trans hT.2.1) hT.2.2.1 (fun ho => absurd (by rw [mo_M, ← mo_X]; exact hv) ho) (fun _ => ?_)⟩
    have hn : tn + nz (byL a b c d e) ≤ 200 := by
      rw [mo_X, nI_add, i_le, nI_toInt (by have := nz_len (byL a b c d e); have : (byL a b c d e).length = 20 := rfl; omega)] at hv
      have : (200 : Int32).toInt = 200 := rfl
      omega
    obtain ⟨q1, q2⟩ := fs_eq (byL a b c d e) (tn, J (x + 130)) hn
    rw [va_up_ne _ _ (show m + 26 ≠ x + 130 by omega), ← hT.2.2.2, fd_M, fd_X, q1]
    generalize hF : (byL a b c d e).foldl fsM (tn, J (x + 130)) = F at q2
    have q2 : F.1 = tn + nz (byL a b c d e) := q2
    have hT2 : TpR x m F.1 (up2 (up2 I 1001 (x + 129) (nI F.1)) 1231 m (nI F.1)) (va_up (va_up J (x + 130) F.2) (m + 26) F.2) := ⟨by rw [up2n (by decide), up2s], by rw [up2s], by omega, by rw [va_up_self, va_up_ne _ _ (by omega), va_up_self]⟩
    exact ⟨rfl, ⟨n, w, la, si, L, ns, sv, F.1, co, ct, cc, ⟨hm, hz⟩, hX.mono (fun _ _ => rfl) (fun f a _ hf => by rcases hf with rfl | rfl | rfl <;> rfl) (fun _ _ _ _ => rfl) (fun _ _ _ _ _ _ => rfl), hM, hP.fr (fun _ _ => rfl) (fun _ _ => rfl) (fun _ _ => rfl) (fun a ha => (by simp (disch := omega) only [up2_ne, va_up_ne])), hN.fr rfl rfl, hW.fr (Nat.le_refl _) rfl (fun _ _ => rfl) (by simp (disch := omega) only [up2_ne, va_up_ne]) (fun a9 ha ht hb => by rw [va_up_ne _ _ (by omega), va_up_ne _ _ (fun e => by rw [e, hX.tp.2.2.2] at ht; cases ht)]), hL.fr (Nat.le_refl _) rfl rfl rfl (fun _ _ => rfl) (fun f a h1 h2 _ => by simp (disch := omega) only [up2n]) (fun _ _ => rfl) (fun a h1 h2 => (by simp (disch := omega) only [up2_ne, va_up_ne])), hC.fr hL.2.1 rfl (fun _ _ => rfl) (fun _ _ => rfl) (by simp (disch := omega) only [up2_ne, va_up_ne]), hS.fr (fun _ _ => rfl) (fun _ _ => rfl) (fun _ _ => rfl) (fun a h1 h2 => (by simp (disch := omega) only [up2_ne, va_up_ne])), hK.fr rfl rfl rfl rfl rfl (by simp (disch := omega) only [up2_ne, va_up_ne]) (by simp (disch := omega) only [up2_ne, va_up_ne]), hU.fr (Nat.le_refl _) rfl rfl (fun _ _ => rfl) (fun _ _ => rfl) (fun _ _ => rfl) (fun _ _ => rfl) (fun _ _ => rfl) (by simp (disch := omega) only [up2_ne, va_up_ne]) (by simp (disch := omega) only [up2_ne, va_up_ne]) (by simp (disch := omega) only [up2_ne, va_up_ne]), hT2, hQ.fr hm (Nat.le_refl _) rfl (fun _ _ => rfl) (fun _ _ _ _ => rfl) (fun _ _ _ => rfl) rfl (fun a9 ha ht hb => by rw [va_up_ne _ _ (by omega), va_up_ne _ _ (fun e => by rw [e, hX.tp.2.2.2] at ht; cases ht)]) (fun a h1 h2 => (by simp (disch := omega) only [up2_ne, va_up_ne]))⟩⟩
