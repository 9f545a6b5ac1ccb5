-- THE START: both objects are made
theorem nn0 (b : Nat) : Nn 0 b := ⟨0, by omega, rfl⟩
theorem Ok.start {x m : Nat} {t2 t3 : TT} {I2 : MI} {R2 R3 : MR} {J2 J3 : MI} {B : MR} (hm : m = x + 141) (h : XIn x t2 I2 R2 J2 B) (h130 : J2 (x + 130) = (fun _ => 0)) (hM : MSt m t3 R3) (hI : MIn m J3) (gt : ∀ a, a < m → t3 a = t2 a) (gJ : ∀ a, a < m → J3 a = J2 a) (gR : ∀ f a, a < m → R3 f a = R2 f a) : Ok x m (m + 36) t3 (zI I2 m) R3 J3 B := by
  obtain ⟨hX, hb, hk, hp, hs, hw, ⟨c1, c2⟩, c3, ⟨c4, c5⟩, c6⟩ := h
  obtain ⟨i1, i2, i3⟩ := hI
  have gI : ∀ f a, a < m → zI I2 m f a = I2 f a := fun f a ha => zI_ne _ _ (by omega)
  have z0 : ∀ f, zI I2 m f m = 0 := fun f => zI_self _ _ _
  have x0 : ∀ f, zI I2 m f x = 0 := fun f => by rw [gI f x (by omega)]; exact hb.2.1 f
  have j0 : ∀ k i, 0 < k → k < 36 → k ≠ 2 → k ≠ 4 → J3 (m + k) i = 0 := fun k i h1 h2 h3 h4 => i1 (m + k) i (by omega) (by omega) (by omega) (by omega)
  refine ⟨0, 0, fun _ => 0, fun _ => 0, [], 0, fun _ => [], 0, x + 133, fun _ => 0, fun _ => [], ⟨hm, Nat.le_refl _⟩, ?_, hM, ?_, ?_, ?_, ?_, ?_, ?_, ?_, ?_, ?_, ?_⟩
  · exact hX.mono (fun a ha => gt a (by omega)) (fun f a ha _ => gI f a (by omega)) (fun f a ha _ => gR f a (by omega)) (fun _ _ _ _ _ _ => rfl)
  · refine ⟨fun p hp8 => ?_, fun p hp8 => ?_, fun k hk4 => ?_, fun k i hk4 hi => ?_, fun p q hp8 hq => ?_⟩
    · rw [gI _ _ (by have := xPl_lt (x := x) hp8; omega), (hp p hp8).2.2.2.1, j0 1 p (by omega) (by omega) (by omega) (by omega)]
      exact ⟨rfl, nn0 _⟩
    · rw [gI _ _ (by have := xPl_lt (x := x) hp8; omega), (hp p hp8).2.2.2.2, j0 5 p (by omega) (by omega) (by omega) (by omega)]
      exact ⟨rfl, nn0 _⟩
    · rw [gI _ _ (by have := xKd_lt (x := x) hk4; omega), (hk k hk4).2.2.2.1, i2 k hk4]
      exact ⟨rfl, by decide, 50, by omega, rfl⟩
    · rw [gJ _ (by have := xKd_lt (x := x) hk4; omega), (hk k hk4).2.2.2.2.2.2, j0 3 _ (by omega) (by omega) (by omega) (by omega)]
      exact ⟨rfl, nn0 _⟩
    · rw [gJ _ (by omega), hw p q hp8 hq, i3 _ (by omega)]
      exact ⟨rfl, 2, by omega, rfl⟩
  · exact ⟨x0 1111, z0 1200, by omega⟩
  · intro u hu
    have e : u = 0 := by omega
    subst e
    refine ⟨x + 5, hb.2.2.2.2.2.2.1.1, by rw [gt _ (by omega)]; exact hb.2.2.2.2.2.2.1.2.1, by omega, by omega, fun s hs => ?_⟩
    rw [gJ _ (by omega), hb.2.2.2.2.2.2.1.2.2, j0 22 _ (by omega) (by omega) (by omega) (by omega)]
  · exact ⟨⟨by omega, by rw [gI _ _ (by omega)]; exact c1, z0 1201⟩, ⟨fun i hi => by omega, fun i j hi => by omega⟩, fun i hi => by omega, fun i _ => ⟨j0 15 i (by omega) (by omega) (by omega) (by omega), j0 18 i (by omega) (by omega) (by omega) (by omega)⟩⟩
  · refine ⟨?_, List.Perm.refl _, List.Pairwise.nil⟩
    show R3 402 (x + 127) = none
    rw [gR _ _ (by omega)]
    exact c2
  · intro s hs32
    have hx := xSo_ltx (x := x) hs32
    obtain ⟨-, -, -, -, -, -, -, -, -, s5, s6, -, s9⟩ := hs s hs32
    rw [gI _ _ (by omega), gI _ _ (by omega), gI _ _ (by omega), s5, s6, s9, j0 19 s (by omega) (by omega) (by omega) (by omega), j0 20 s (by omega) (by omega) (by omega) (by omega), j0 21 s (by omega) (by omega) (by omega) (by omega)]
    exact ⟨⟨rfl, nn0 _⟩, rfl, rfl⟩
  · have e : sm (J3 (m + 21)) (List.range 32) = 0 := sm_zero _ (fun s _ => j0 21 s (by omega) (by omega) (by omega) (by omega))
    refine ⟨by rw [x0, z0], by rw [x0]; rfl, by rw [x0, e], by rw [z0, e]⟩
  · refine ⟨⟨x0 1115, z0 1204, by omega⟩, fun s hs32 => ?_⟩
    have hx := xSo_ltx (x := x) hs32
    obtain ⟨-, -, -, -, -, -, -, -, -, -, -, s7, -⟩ := hs s hs32
    refine ⟨?_, fun a ha => (by cases ha), List.nodup_nil, fun a ha => (by cases ha), fun a ha => (by cases ha), fun i hi => by omega, rfl, fun s' _ _ a ha => (by cases ha)⟩
    show R3 707 (xSo x s) = none
    rw [gR _ _ (by omega)]
    exact s7
  · refine ⟨by rw [gI _ _ (by omega)]; exact c3, z0 1231, by omega, ?_⟩
    rw [gJ _ (by omega), h130]
    exact (funext fun i => j0 26 i (by omega) (by omega) (by omega) (by omega)).symm
  · refine ⟨⟨by rw [gR _ _ (by omega)]; exact c4, ?_, Or.inl rfl, by omega⟩, fun j hj => Or.inl ⟨c6 j, rfl⟩, fun j hj => ⟨j0 27 j (by omega) (by omega) (by omega) (by omega), by show 0 ≤ 34; omega, fun i c hc => by simp at hc, fun c hc => by cases hc⟩⟩
    exact CoSt.fr c5 (fun a ha => gt a (by omega)) (fun f hf => gR f _ (by omega))
