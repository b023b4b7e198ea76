/-! making: the film's head and a picture's, both sides -/
section HeadB
variable {s s' : hS} {Q Q' : hQ} {hm hm' : hO} {I I' m m' : jM} {a b pc : Nat} {f len v u w h os cod rt cnt g k st n z : Int}
theorem jwb_s {x : Int} (h0 : 0 ≤ x) (h1 : x ≤ 127) : jwb x = x := by
  unfold jwb
  omega
/-- rows of the model as they were, but for bytes behind len -/
def MB (m m' : jM) (len : Int) : Prop := (∀ c : Nat, c ≠ 76 → c ≠ 112 → m' c = m c) ∧ (∀ y : Int, y ≠ 47 → m' 76 y = m 76 y) ∧ ∀ i : Int, i < len → m' 112 i = m 112 i
theorem MB_refl : MB m m len := ⟨fun _ _ _ => rfl, fun _ _ => rfl, fun _ _ => rfl⟩
theorem MB_t {m2 : jM} {l2 : Int} (hl : len ≤ l2) (A : MB m m' len) (B : MB m' m2 l2) : MB m m2 len := ⟨fun c c1 c2 => (B.1 c c1 c2).trans (A.1 c c1 c2), fun y hy => (B.2.1 y hy).trans (A.2.1 y hy), fun i hi => (B.2.2 i (by omega)).trans (A.2.2 i hi)⟩
theorem MB_1 : MB m (mB1 m len u) len := ⟨mB1_f.1, mB1_f.2, fun i hi => by unfold mB1; rw [jms_o (by decide), jms_i (by omega)]⟩
theorem mB1_v : mB1 m len u 112 len = jwb u := by unfold mB1; rw [jms_o (by decide), jms_e]
theorem MB_y (z0 : 0 ≤ z) : MB m (mBy m n len z) len := ⟨mBy_f.1, mBy_f.2.1, mBy_f.2.2.2.1⟩
theorem head_m (L : Lay s Q hm) (B : FBm s Q hm I (jms m 76 47 0) a f 0) (h6 : s.1 + 2 < 1000000 + bzR s Q a) (P : PicAt s Q hm pc os) (ho : os ≠ 540 + f ∧ os ≠ 500 + f) (iw : I pc 0 = w) (ih : I pc 1 = h) (m32 : m 76 32 = cod) (m33 : m 76 33 = w) (m34 : m 76 34 = h) : ∃ (S : hS) (R : hQ) (H : hO) (J m' : jM), jd_26 a cod (some pc) rt cnt (hh s Q I) = some (hh S R J) ∧ jd_295 rt cnt m = some m' ∧ Lay S R H ∧ FBm S R H J m' a f 7 ∧ BF a f s Q hm I S R H J ∧ S.1 + 2 < 1000000 + bzR S R a ∧ MB m m' 0 ∧ (m' 112 0 = 77 ∧ m' 112 1 = 70 ∧ m' 112 2 = jwb cod ∧ m' 112 3 = jwb (jdiv w 8) ∧ m' 112 4 = jwb (jdiv h 8) ∧ m' 112 5 = jwb rt ∧ m' 112 6 = jwb cnt) := by
  have F0 : FilmAt s Q hm a f := B.1
  obtain ⟨s1, Q1, hm1, I1, a1, b1, L1, B1, X1, g1⟩ := c_24b (v := 77) (u := 77) L B h6 (by decide) rfl
  obtain ⟨s2, Q2, hm2, I2, a2, b2, L2, B2, X2, g2⟩ := c_24b (v := 70) (u := 70) L1 B1 g1 (by decide) rfl
  obtain ⟨s3, Q3, hm3, I3, a3, b3, L3, B3, X3, g3⟩ := c_24b (v := cod) (u := cod) L2 B2 g2 (by decide) rfl
  have Y3 := BF_t (BF_t X1 X2) X3
  obtain ⟨P3, p30, -⟩ := BF_p F0 P ho Y3
  obtain ⟨s4, Q4, hm4, I4, a4, b4, L4, B4, X4, g4⟩ := c_24b (v := jdiv w 8) (u := jdiv w 8) L3 B3 g3 (by decide) rfl
  have Y4 := BF_t Y3 X4
  obtain ⟨P4, p40, -⟩ := BF_p F0 P ho Y4
  obtain ⟨s5, Q5, hm5, I5, a5, b5, L5, B5, X5, g5⟩ := c_24b (v := jdiv h 8) (u := jdiv h 8) L4 B4 g4 (by decide) rfl
  obtain ⟨s6, Q6, hm6, I6, a6, b6, L6, B6, X6, g6⟩ := c_24b (v := rt) (u := rt) L5 B5 g5 (by decide) rfl
  obtain ⟨s7, Q7, hm7, I7, a7, b7, L7, B7, X7, g7⟩ := c_24b (v := cnt) (u := cnt) L6 B6 g6 (by decide) rfl
  have Y7 := BF_t (BF_t (BF_t Y4 X5) X6) X7
  obtain ⟨m1, e1⟩ : ∃ z, z = mB1 (jms m 76 47 0) 0 77 := ⟨_, rfl⟩
  obtain ⟨m2, e2⟩ : ∃ z, z = mB1 m1 (0 + 1) 70 := ⟨_, rfl⟩
  obtain ⟨m3, e3⟩ : ∃ z, z = mB1 m2 (0 + 1 + 1) cod := ⟨_, rfl⟩
  obtain ⟨m4, e4⟩ : ∃ z, z = mB1 m3 (0 + 1 + 1 + 1) (jdiv w 8) := ⟨_, rfl⟩
  obtain ⟨m5, e5⟩ : ∃ z, z = mB1 m4 (0 + 1 + 1 + 1 + 1) (jdiv h 8) := ⟨_, rfl⟩
  obtain ⟨m6, e6⟩ : ∃ z, z = mB1 m5 (0 + 1 + 1 + 1 + 1 + 1) rt := ⟨_, rfl⟩
  obtain ⟨m7, e7⟩ : ∃ z, z = mB1 m6 (0 + 1 + 1 + 1 + 1 + 1 + 1) cnt := ⟨_, rfl⟩
  rw [← e1] at b1 b2 b3 b4 b5 b6 b7 B7
  rw [← e2] at b2 b3 b4 b5 b6 b7 B7
  rw [← e3] at b3 b4 b5 b6 b7 B7
  rw [← e4] at b4 b5 b6 b7 B7
  rw [← e5] at b5 b6 b7 B7
  rw [← e6] at b6 b7 B7
  rw [← e7] at b7 B7
  have M0 : MB m (jms m 76 47 0) 0 := ⟨fun c c1 _ => jms_o c1, fun y hy => jms_i hy, fun i _ => by rw [jms_o (by decide)]⟩
  have M1 : MB (jms m 76 47 0) m1 0 := by rw [e1]; exact MB_1
  have M2 : MB m1 m2 1 := by rw [e2]; exact MB_1
  have M3 : MB m2 m3 2 := by rw [e3]; exact MB_1
  have M4 : MB m3 m4 3 := by rw [e4]; exact MB_1
  have M5 : MB m4 m5 4 := by rw [e5]; exact MB_1
  have M6 : MB m5 m6 5 := by rw [e6]; exact MB_1
  have M7 : MB m6 m7 6 := by rw [e7]; exact MB_1
  have N6 : MB m5 m7 5 := MB_t (by decide) M6 M7
  have N5 : MB m4 m7 4 := MB_t (by decide) M5 N6
  have N4 : MB m3 m7 3 := MB_t (by decide) M4 N5
  have N3 : MB m2 m7 2 := MB_t (by decide) M3 N4
  have N2 : MB m1 m7 1 := MB_t (by decide) M2 N3
  have N1 : MB (jms m 76 47 0) m7 0 := MB_t (by decide) M1 N2
  have N0 : MB m m7 0 := MB_t (by decide) M0 N1
  have T2 := MB_t (by decide) M0 (MB_t (by decide) M1 M2)
  have T3 := MB_t (by decide) T2 M3
  have T4 := MB_t (by decide) T3 M4
  refine ⟨s7, Q7, hm7, I7, m7, ?_, ?_, L7, B7, Y7, g7, N0, ?_, ?_, ?_, ?_, ?_, ?_, ?_⟩
  · have t0 : jst 5 0 = some 77 := (hst (k := 0) (by decide)).1
    have t1 : jst 5 1 = some 70 := (hst (k := 1) (by decide)).1
    have w3 : I3 pc ((0 : Nat) : Int) = w := by rw [p30]; exact iw
    have w4 : I4 pc ((1 : Nat) : Int) = h := by rw [p40]; exact ih
    unfold jd_26
    rw [t0, Option.bind_some, F_ck F0, Option.bind_some, a1, Option.bind_some, t1, Option.bind_some, F_ck B1.1, Option.bind_some, a2, Option.bind_some, F_ck B2.1, Option.bind_some, a3, Option.bind_some, Option.bind_some, x_gi P3.2.1.1 P3.2.1.2.1, Option.bind_some, w3, F_ck B3.1, Option.bind_some, a4, Option.bind_some, Option.bind_some, x_gi P4.2.1.1 P4.2.1.2.1, Option.bind_some, w4, F_ck B4.1, Option.bind_some, a5, Option.bind_some, F_ck B5.1, Option.bind_some, a6, Option.bind_some, F_ck B6.1, Option.bind_some, a7, Option.bind_some]
  · unfold jd_295
    rw [Option.bind_some, b1, Option.bind_some, b2, Option.bind_some, show m2 76 32 = cod by rw [T2.2.1 32 (by decide)]; exact m32, b3, Option.bind_some, show m3 76 33 = w by rw [T3.2.1 33 (by decide)]; exact m33, b4, Option.bind_some, show m4 76 34 = h by rw [T4.2.1 34 (by decide)]; exact m34, b5, Option.bind_some, b6, Option.bind_some, b7, Option.bind_some]
  · rw [N2.2.2 0 (by decide), e1, mB1_v]
    rfl
  · rw [N3.2.2 1 (by decide), e2]
    exact mB1_v
  · rw [N4.2.2 2 (by decide), e3]
    exact mB1_v
  · rw [N5.2.2 3 (by decide), e4]
    exact mB1_v
  · rw [N6.2.2 4 (by decide), e5]
    exact mB1_v
  · rw [M7.2.2 5 (by decide), e6]
    exact mB1_v
  · rw [e7]
    exact mB1_v
end HeadB
