-- SUMS OVER LOTS; WHAT HOLDS BETWEEN THE CALLS
theorem nI_inj {a b : Nat} (h : nI a = nI b) (ha : a < 2147483648) (hb : b < 2147483648) : a = b := (nI_eq (by omega) (by omega)).mp h
def sm (f : Nat → Int32) : List Nat → Int32
  | [] => 0
  | a :: l => f a + sm f l
theorem sm_perm {f : Nat → Int32} {L L' : List Nat} (h : L.Perm L') : sm f L = sm f L' := by
  induction h with
  | nil => rfl
  | cons a _ ih => simp only [sm, ih]
  | swap a b l => simp only [sm]; rw [← Int32.add_assoc, ← Int32.add_assoc, Int32.add_comm (f b)]
  | trans _ _ h1 h2 => exact h1.trans h2
theorem sm_congr {f g : Nat → Int32} : ∀ (L : List Nat), (∀ a ∈ L, f a = g a) → sm f L = sm g L
  | [], _ => rfl
  | a :: l, h => by rw [sm, sm, h a List.mem_cons_self, sm_congr l (fun b hb => h b (List.mem_cons_of_mem _ hb))]
theorem sm_itr {f : Nat → Int32} {st : Nat → Int32 → Int32} (h : ∀ l s, st l s = s + f l) : ∀ (n i : Nat) (s : Int32), itr st i n s = s + sm f (List.range' i n)
  | 0, i, s => by simp [itr, sm]
  | n + 1, i, s => by rw [itr, sm_itr h n, List.range'_succ, sm, h, Int32.add_assoc]
theorem sm_itr0 {f : Nat → Int32} {st : Nat → Int32 → Int32} (h : ∀ l s, st l s = s + f l) (n : Nat) : itr st 0 n 0 = sm f (List.range n) := by
  rw [sm_itr h, Int32.zero_add, List.range_eq_range']
theorem sm_fold {h : Nat → Int32} {la : Nat → Nat} {st : Int32 → Nat → Int32} (hs : ∀ s a, st s a = s + h a) : ∀ (L : List Nat) (s : Int32), (L.map la).foldl st s = s + sm (fun i => h (la i)) L
  | [], s => by simp [sm]
  | a :: l, s => by rw [List.map_cons, List.foldl_cons, sm_fold hs l, sm, hs, Int32.add_assoc]
theorem sm_app {f : Nat → Int32} : ∀ (L L' : List Nat), sm f (L ++ L') = sm f L + sm f L'
  | [], L' => by simp [sm]
  | a :: l, L' => by rw [List.cons_append, sm, sm, sm_app l, Int32.add_assoc]
theorem sm_add {f g : Nat → Int32} : ∀ (L : List Nat), sm (fun i => f i + g i) L = sm f L + sm g L
  | [] => by simp [sm]
  | a :: l => by
    rw [sm, sm, sm, sm_add l, Int32.add_assoc, Int32.add_assoc, ← Int32.add_assoc (g a), Int32.add_comm (g a), Int32.add_assoc]
theorem sm_zero {f : Nat → Int32} : ∀ (L : List Nat), (∀ a ∈ L, f a = 0) → sm f L = 0
  | [], _ => rfl
  | a :: l, h => by rw [sm, h a List.mem_cons_self, sm_zero l (fun b hb => h b (List.mem_cons_of_mem _ hb)), Int32.add_zero]
theorem sm_succ {f : Nat → Int32} (n : Nat) : sm f (List.range (n + 1)) = sm f (List.range n) + f n := by
  rw [List.range_succ, sm_app, sm, sm, Int32.add_zero]
/-- a number of at most b -/
def Nn (v : Int32) (b : Nat) : Prop := ∃ k, k ≤ b ∧ v = nI k
def cl (v : Int32) : Nat := v.toNatClampNeg
theorem cl_nI {k : Nat} (h : k < 2147483648) : cl (nI k) = k := nI_clamp (by omega)
theorem Nn.cl {v : Int32} {b : Nat} (h : Nn v b) (hb : b < 2147483648) : v = nI (cl v) ∧ cl v ≤ b := by
  obtain ⟨k, hk, rfl⟩ := h
  rw [cl_nI (by omega)]
  exact ⟨rfl, hk⟩
theorem Nn.of {v M : Int32} {b : Nat} (hM : M.toInt = (b : Int)) (h : 0 ≤ v ∧ v ≤ M) : Nn v b := by
  obtain ⟨j, h1, h2, h3⟩ := i_nat h.1
  have := i_le.mp h.2
  exact ⟨j, by omega, h1⟩
theorem Nn.rng {v M : Int32} {b : Nat} (h : Nn v b) (hM : M.toInt = (b : Int)) (hb : b < 2147483648) : 0 ≤ v ∧ v ≤ M := by
  obtain ⟨k, hk, rfl⟩ := h
  rw [i_le, i_le, nI_toInt (by omega), hM]
  have : (0 : Int32).toInt = 0 := rfl
  omega
theorem Nn.int {v : Int32} {b : Nat} (h : Nn v b) (hb : b < 2147483648) : 0 ≤ v.toInt ∧ v.toInt ≤ (b : Int) := by
  obtain ⟨k, hk, rfl⟩ := h
  rw [nI_toInt (by omega)]
  omega
theorem Nn.ofi {v : Int32} {b : Nat} (h1 : 0 ≤ v.toInt) (h2 : v.toInt ≤ (b : Int)) (hb : b < 2147483648) : Nn v b :=
  ⟨v.toInt.toNat, by omega, i_ext (by omega) (by omega)⟩
theorem Nn.mono {v : Int32} {b c : Nat} (h : Nn v b) (hc : b ≤ c) : Nn v c := by
  obtain ⟨k, hk, e⟩ := h
  exact ⟨k, by omega, e⟩
-- the settings
def PmR (x m : Nat) (I J : MI) : Prop :=
  (∀ p, p < 8 → I 501 (xPl x p) = J (m + 1) p ∧ Nn (J (m + 1) p) 1000) ∧
  (∀ p, p < 8 → I 502 (xPl x p) = J (m + 5) p ∧ Nn (J (m + 5) p) 30) ∧
  (∀ k, k < 4 → I 102 (xKd x k) = J (m + 2) k ∧ (1 ≤ J (m + 2) k ∧ Nn (J (m + 2) k) 500)) ∧
  (∀ k i, k < 4 → i < 10 → J (xKd x k + 1) i = J (m + 3) (10 * k + i) ∧ Nn (J (m + 3) (10 * k + i)) 1000) ∧
  (∀ p q, p < 8 → q < 8 → J (x + 7 + p) q = J (m + 4) (8 * p + q) ∧ Nn (J (m + 4) (8 * p + q)) 30)
-- the weeks and their rows
def NwR (x m w : Nat) (I : MI) : Prop := I 1111 x = nI w ∧ I 1200 m = nI w ∧ w ≤ 200
def RwR (x m w z : Nat) (t : TT) (J : MI) (B : MR) : Prop := ∀ u, u ≤ w → ∃ r, B (x + 4) u = some r ∧ t r = (20, 32) ∧ r < z ∧ (r < m ∨ m + 36 ≤ r) ∧ ∀ s, s < 32 → J r s = J (m + 22) (32 * u + s)
-- the lots
def LotR (x m w : Nat) (I : MI) (R : MR) (J : MI) (la si : Nat → Nat) (i : Nat) : Prop :=
  (R 300 (la i) = some (xSo x (si (la i))) ∧ si (la i) < 32 ∧ J (m + 10) i = nI (si (la i) / 4) ∧ J (m + 7) i = nI (si (la i) % 4)) ∧
  (I 301 (la i) = J (m + 6) i ∧ Nn (J (m + 6) i) 9) ∧
  (I 302 (la i) = J (m + 8) i ∧ Nn (J (m + 8) i) w) ∧
  I 303 (la i) = J (m + 12) i ∧
  (I 304 (la i) = J (m + 13) i ∧ Nn (J (m + 13) i) i) ∧
  (I 305 (la i) = J (m + 14) i ∧ Nn (J (m + 14) i) 5000) ∧
  (I 306 (la i) = J (m + 9) i ∧ Nn (J (m + 9) i) 5000) ∧
  I 307 (la i) = J (m + 11) i ∧
  I 308 (la i) = J (m + 15) i ∧
  ((I 309 (la i) = 0 ↔ J (m + 16) i = -1) ∧ I 310 (la i) = (if J (m + 16) i = -1 then 0 else J (m + 17) i)) ∧
  I 311 (la i) = J (m + 18) i
def AdR (x m n z : Nat) (t : TT) (B : MR) (la : Nat → Nat) : Prop := (∀ i, i < n → B (x + 128) i = some (la i) ∧ (t (la i)).1 = 4 ∧ m + 36 ≤ la i ∧ la i < z) ∧ ∀ i j, i < n → j < n → la i = la j → i = j
def LoR (x m w n z : Nat) (t : TT) (I : MI) (R : MR) (J : MI) (B : MR) (la si : Nat → Nat) : Prop :=
  (n ≤ 300 ∧ I 401 (x + 127) = nI n ∧ I 1201 m = nI n) ∧ AdR x m n z t B la ∧ (∀ i, i < n → LotR x m w I R J la si i) ∧ ∀ i, n ≤ i → J (m + 15) i = 0 ∧ J (m + 18) i = 0
def before (f : Nat → Int32) (i j : Nat) : Prop := f i < f j ∨ (f i = f j ∧ i < j)
def ChR (x m n : Nat) (t : TT) (R : MR) (J : MI) (la : Nat → Nat) (L : List Nat) : Prop := Chain t R (R 402 (x + 127)) (L.map la) ∧ L.Perm (List.range n) ∧ L.Pairwise (before (J (m + 8)))
-- the stores
def StR (x m : Nat) (I J : MI) : Prop := ∀ s, s < 32 → (I 900 (xSo x s + 1) = J (m + 19) s ∧ Nn (J (m + 19) s) 500) ∧ I 706 (xSo x s) = J (m + 20) s ∧ I 705 (xSo x s) = J (m + 21) s
-- the sums
def CnR (x m n : Nat) (I J : MI) : Prop := I 1112 x = I 1202 m ∧ I 1113 x = sm (J (m + 18)) (List.range n) ∧ I 1114 x = sm (J (m + 21)) (List.range 32) ∧ I 1203 m = sm (J (m + 21)) (List.range 32)
-- the surveys
def lat (J : MI) (m N : Nat) (s i : Nat) : Prop := i < N ∧ J (m + 33) i = nI s ∧ ∀ j, i < j → j < N → ¬ (J (m + 33) j = nI s ∧ J (m + 34) j = J (m + 34) i)
def SuR (x m ns z : Nat) (t : TT) (I : MI) (R : MR) (J : MI) (sv : Nat → List Nat) : Prop :=
  (I 1115 x = nI ns ∧ I 1204 m = nI ns ∧ ns ≤ 200) ∧ ∀ s, s < 32 → SChain t R (R 707 (xSo x s)) (sv s) ∧ (∀ a ∈ sv s, m + 36 ≤ a ∧ a < z ∧ (t a).1 = 9) ∧ (sv s).Nodup ∧ (∀ a ∈ sv s, ∀ b ∈ sv s, I 800 a = I 800 b → a = b) ∧ (∀ a ∈ sv s, ∃ i, lat J m ns s i ∧ J (m + 34) i = I 800 a ∧ J (m + 35) i = I 802 a) ∧ (∀ i, i < ns → J (m + 33) i = nI s → ∃ a ∈ sv s, I 800 a = J (m + 34) i) ∧ sm (I 802) (sv s) = itr (blM J m ns (nI s)) 0 ns 0 ∧ ∀ s', s' < 32 → s ≠ s' → ∀ a ∈ sv s, a ∉ sv s'
-- the tape
def TpR (x m tn : Nat) (I J : MI) : Prop := I 1001 (x + 129) = nI tn ∧ I 1231 m = nI tn ∧ tn ≤ 200 ∧ J (x + 130) = J (m + 26)
-- the contracts
def apart (a b : Nat) : Prop := a + 5 ≤ b ∨ b + 5 ≤ a
def CoA (x m z : Nat) (t : TT) (R : MR) (co : Nat) : Prop := CoSt t R co (co + 1) (co + 2) (co + 3) (co + 4) ∧ (co = x + 133 ∨ m + 36 ≤ co) ∧ co + 5 ≤ z
def CoR (x m z : Nat) (t : TT) (I : MI) (R : MR) (J : MI) (B : MR) (co : Nat) (ct : Nat → Nat) (cc : Nat → List CC) : Prop :=
  (R 1109 x = some co ∧ CoA x m z t R co) ∧ (∀ j, j < 10 → (B (x + 132) j = none ∧ cc j = []) ∨ (B (x + 132) j = some (ct j) ∧ CoA x m z t R (ct j) ∧ apart (ct j) co ∧ (∀ i, i < 10 → i ≠ j → B (x + 132) i ≠ none → apart (ct j) (ct i)) ∧ I 4 (ct j) = nI (cc j).length ∧ (cc j).length ≤ 34 ∧ CoHas J (ct j + 1) (ct j + 2) (ct j + 3) (ct j + 4) (cc j))) ∧ CtM m J cc
def Inv (x m z : Nat) (t : TT) (I : MI) (R : MR) (J : MI) (B : MR) (n w : Nat) (la si : Nat → Nat) (L : List Nat) (ns : Nat) (sv : Nat → List Nat) (tn co : Nat) (ct : Nat → Nat) (cc : Nat → List CC) : Prop :=
  (m = x + 141 ∧ m + 36 ≤ z) ∧ XSt x t I R B ∧ MSt m t R ∧ PmR x m I J ∧ NwR x m w I ∧ RwR x m w z t J B ∧ LoR x m w n z t I R J B la si ∧ ChR x m n t R J la L ∧ StR x m I J ∧ CnR x m n I J ∧ SuR x m ns z t I R J sv ∧ TpR x m tn I J ∧ CoR x m z t I R J B co ct cc
def Ok (x m z : Nat) (t : TT) (I : MI) (R : MR) (J : MI) (B : MR) : Prop := ∃ n w la si L ns sv tn co ct cc, Inv x m z t I R J B n w la si L ns sv tn co ct cc
/-- one call on both sides: the same answer, and what holds between the calls holds again -/
def Pr (l : Launch) (D : va_G) (A : Nat → Prop) (d mc ms d2 : Nat) (μ ν : Meth) (av : List Value) (x m z : Nat) (t : TT) (I : MI) (R : MR) (J : MI) (B : MR) : Prop :=
  Sem l D A d mc ms μ (va_rf (some x) :: av) z t I R J B (fun r z1 t1 I1 R1 J1 B1 => ∃ v : Int32, r = some (.int v) ∧ (t1 m).1 = 13 ∧ Sem l D A d2 0 0 ν (va_rf (some m) :: av) z1 t1 I1 R1 J1 B1 (fun r2 z2 t2 I2 R2 J2 B2 => r2 = some (.int v) ∧ Ok x m z2 t2 I2 R2 J2 B2))
