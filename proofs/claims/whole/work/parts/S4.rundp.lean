/-! making in runs: the class's table -/
section RunDp
variable {s : hS} {Q : hQ} {hm : hO} {I : jM} {x N kd W y : Int} {v an nd wy ln nd' wy' ln' : Int → Int} {A : Int → Int → Prop} {C C' : Int → Int → Int} {c w l : Int}
theorem Spc_k (h : ∀ a b : Int, A a b → C' a b = C a b) (X : Spc A C c w l) : Spc A C' c w l := ⟨X.1, by rw [h _ _ X.1]; exact X.2.1, fun a b hab => by rw [h a b hab]; exact X.2.2 a b hab⟩
theorem TB_c (h : ∀ z : Int, x ≤ z → z ≤ N → nd' z = nd z) (h2 : ∀ z : Int, x ≤ z → z < N → wy' z = wy z ∧ ln' z = ln z) (xN : x ≤ N) (T : TB v an kd W N nd wy ln x) : TB v an kd W N nd' wy' ln' x := by
  refine ⟨by rw [h N xN (Int.le_refl _)]; exact T.1, fun y y0 y1 => ?_⟩
  obtain ⟨e1, e2⟩ := h2 y y0 y1
  rw [h y y0 (by omega), e1, e2]
  refine Spc_k (fun a b hab => ?_) (T.2 y y0 y1)
  have := Rn_r (v := v) (an := an) (kd := kd) (W := W) (N := N) (w := a) (x := y) (by omega)
  have := hab.2
  rw [h (y + b) (by omega) (by omega)]
/-- the loop's step at x -/
theorem c_127x (Ly : Lay s Q hm) (h6 : s.1 ≤ 1000000) (x0 : 0 ≤ x) (x1 : x < N) (N1 : N ≤ 576) (T : TB v an kd W N (I 65) (I 66) (I 67) (x + 1)) : ∃ I1 I2 I3 I4, jd_128 64 x 0 (Rn v an kd W N 0 x) 8 (hh s Q (jms I 65 x 1000000)) = some (hh s Q I1) ∧ jd_128 64 x 1 (Rn v an kd W N 1 x) 0 (hh s Q I1) = some (hh s Q I2) ∧ jd_128 64 x 2 (Rn v an kd W N 2 x) 0 (hh s Q I2) = some (hh s Q I3) ∧ jd_130 64 x N (hh s Q I3) = some (hh s Q I4) ∧ FrX I I4 x ∧ TB v an kd W N (I4 65) (I4 66) (I4 67) x := by
  obtain ⟨nd, hnd0⟩ : ∃ nd, nd = I 65 := ⟨_, rfl⟩
  have bd : ∀ z : Int, x < z → z ≤ N → 0 ≤ nd z ∧ nd z ≤ 10 * N := fun z z0 z1 => by
    have := TB_r T (y := z) (by omega) z1
    rw [hnd0]
    omega
  have mono : ∀ a b : Int, x < a → a ≤ b → b ≤ N → nd b ≤ nd a := fun a b a0 ab bN => by
    have := (TB_r T (y := a) (by omega) (by omega)).2.2 b ab bN
    rw [hnd0]
    exact this
  have r0 := Rn_r (v := v) (an := an) (kd := kd) (W := W) (N := N) (w := 0) (x := x) (by omega)
  have r1 := Rn_r (v := v) (an := an) (kd := kd) (W := W) (N := N) (w := 1) (x := x) (by omega)
  have r2 := Rn_r (v := v) (an := an) (kd := kd) (W := W) (N := N) (w := 2) (x := x) (by omega)
  obtain ⟨I0, hI0⟩ : ∃ z, z = jms I 65 x 1000000 := ⟨_, rfl⟩
  have F0 : FrX I I0 x := ⟨fun y y1 _ _ => by rw [hI0, jms_o y1], fun z hz => ⟨by rw [hI0, jms_i hz], by rw [hI0, jms_o (by decide)], by rw [hI0, jms_o (by decide)]⟩⟩
  have c65 : I0 65 x = 1000000 := by rw [hI0, jms_e]
  have hn : ∀ {J : jM}, FrX I J x → ∀ z : Int, x < z → z ≤ N → J 65 z = nd z ∧ 0 ≤ nd z ∧ nd z ≤ 10 * N := fun {J} F z z0 z1 => ⟨by rw [(F.2 z (by omega)).1, hnd0], bd z z0 z1⟩
  rw [← hI0]
  obtain ⟨I1, e1, f1, b1, s1⟩ := c_128 (I := I0) (x := x) (N := N) (w := 0) (R := Rn v an kd W N 0 x) (ex := 8) (nd := nd) (A0 := fun _ _ => False) Ly h6 x0 x1 N1 (by decide) (by decide) r0.1 r0.2 rfl (hn F0) mono (by rw [c65]; decide) (by rw [c65]; decide) (fun _ _ h => absurd h id) (Or.inl ⟨fun _ _ h => h, c65⟩)
  have F1 := FrX_t F0 f1
  obtain ⟨I2, e2, f2, b2, s2⟩ := c_128 (I := I1) (x := x) (N := N) (w := 1) (R := Rn v an kd W N 1 x) (ex := 0) (nd := nd) Ly h6 x0 x1 N1 (by decide) (by decide) r1.1 r1.2 rfl (hn F1) mono b1.1 b1.2 (fun a b h => by
    rcases h with h | h
    · exact absurd h id
    · omega) s1
  have F2 := FrX_t F1 f2
  obtain ⟨I3, e3, f3, b3, s3⟩ := c_128 (I := I2) (x := x) (N := N) (w := 2) (R := Rn v an kd W N 2 x) (ex := 0) (nd := nd) Ly h6 x0 x1 N1 (by decide) (by decide) r2.1 r2.2 rfl (hn F2) mono b2.1 b2.2 (fun a b h => by
    rcases h with (h | h) | h
    · exact absurd h id
    · omega
    · omega) s2
  have F3 := FrX_t F2 f3
  have s3' : Spc (fun a b => ((False ∨ (a = 0 ∧ 1 ≤ b ∧ b ≤ Rn v an kd W N 0 x)) ∨ (a = 1 ∧ 1 ≤ b ∧ b ≤ Rn v an kd W N 1 x)) ∨ (a = 2 ∧ 1 ≤ b ∧ b ≤ Rn v an kd W N 2 x)) (fun a b => cs a b + nd (x + b)) (I3 65 x) (I3 66 x) (I3 67 x) := by
    rcases s3 with ⟨h, -⟩ | h
    · exact absurd (Or.inl (Or.inl (Or.inr ⟨rfl, by decide, Rn_0 x1⟩))) (h 0 1)
    · exact h
  have T3 : TB v an kd W N nd (I 66) (I 67) (x + 1) := by rw [hnd0]; exact T
  obtain ⟨I4, e4, f4, s4⟩ := c_130 (I := I3) (x := x) (N := N) (nd := nd) (wy := I 66) (ln := I 67) Ly h6 x0 x1 N1 (fun z z0 z1 => (hn F3 z z0 z1).1) (fun z z0 z1 => (F3.2 z (by omega)).2.1) T3 b3.1 b3.2 (fun a b h => by
    rcases h with ((h | h) | h) | h
    · exact absurd h id
    · omega
    · omega
    · omega) s3'
  have F4 := FrX_t F3 f4
  refine ⟨I1, I2, I3, I4, e1, e2, e3, e4, F4, ?_⟩
  have T4 : TB v an kd W N (I4 65) (I4 66) (I4 67) (x + 1) := TB_c (fun z z0 _ => (F4.2 z (by omega)).1) (fun z z0 _ => (F4.2 z (by omega)).2) (by omega) T
  refine ⟨T4.1, fun y y0 y1 => ?_⟩
  by_cases d : y = x
  · rw [d]
    refine Spc_k (C := fun a b => cs a b + nd (x + b)) (fun a b hab => ?_) (Spc_c (fun a b => ?_) s4)
    · have := Rn_r (v := v) (an := an) (kd := kd) (W := W) (N := N) (w := a) (x := x) (by omega)
      have := hab.2
      rw [(F4.2 (x + b) (by omega)).1, hnd0]
    · have e3' : Rn v an kd W N 3 x = N - x := by
        unfold Rn
        rw [if_pos rfl]
      constructor
      · rintro ((((h | ⟨rfl, h⟩) | ⟨rfl, h⟩) | ⟨rfl, h⟩) | ⟨rfl, h⟩)
        · exact absurd h id
        · exact ⟨by decide, h⟩
        · exact ⟨by decide, h⟩
        · exact ⟨by decide, h⟩
        · exact ⟨by decide, h.1, by rw [e3']; exact h.2⟩
      · rintro ⟨⟨a0, a3⟩, h⟩
        have : a = 0 ∨ a = 1 ∨ a = 2 ∨ a = 3 := by omega
        rcases this with rfl | rfl | rfl | rfl
        · exact Or.inl (Or.inl (Or.inl (Or.inr ⟨rfl, h⟩)))
        · exact Or.inl (Or.inl (Or.inr ⟨rfl, h⟩))
        · exact Or.inl (Or.inr ⟨rfl, h⟩)
        · exact Or.inr ⟨rfl, h.1, by rw [← e3']; exact h.2⟩
  · exact T4.2 y (by omega) y1
end RunDp
