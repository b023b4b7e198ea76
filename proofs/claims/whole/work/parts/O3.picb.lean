/-! making: a picture's head and bytes put behind a film's, both sides -/
section PicB
variable {s s' : hS} {Q Q' : hQ} {hm hm' : hO} {I I' m m' : jM} {a b : Nat} {f len q k st n z x1 x3 x4 x5 : Int}
theorem bz_6 (h6 : s.1 + 2 < 1000000 + bzR s Q a) : s.1 ≤ 1000000 := by
  have := bzR_2 (s := s) (Q := Q) (a := a)
  generalize bzR s Q a = z1 at *
  omega
theorem picb (L : Lay s Q hm) (B : FBm s Q hm I m a f len) (h6 : s.1 + 2 < 1000000 + bzR s Q a) (lp : 0 < len) (W : WrT s Q 43 b) (ob : hm b = 560) (Y : By I b (m 113) n) (h53 : m 76 53 = n) (n0 : 0 ≤ n) (n1 : n ≤ 30600) (hz : (n + 7) / 8 = z) (z1 : z ≤ 2000) (lz : len + 5 + z ≤ 24067) (q0 : 0 ≤ q) (q1 : q < 12) (k0 : 0 ≤ k) (k1 : k < 12) (hk : I (a + 1) q = m 102 k) (hp : I (a + 2) q = m 103 k - x1 + x3) (hs : m 104 k = st) (hx : ¬ jw x3 = -1) : ∃ (S : hS) (R : hQ) (H : hO) (J m' : jM), jd_27 a q st (some b) 0 z (hh s Q I) = some (hh S R J) ∧ jd_294_b207 x1 x3 x4 x5 k z m = some (.inl (k + 1, m')) ∧ Lay S R H ∧ FBm S R H J m' a f (len + 5 + z) ∧ BF a f s Q hm I S R H J ∧ S.1 + 2 < 1000000 + bzR S R a ∧ MB m m' len ∧ (m' 112 len = jwb (m 102 k) ∧ m' 112 (len + 1) = jwb (m 103 k - x1 + x3) ∧ m' 112 (len + 2) = jwb st ∧ m' 112 (len + 3) = jwb (z / 256) ∧ m' 112 (len + 4) = jwb (z % 256)) := by
  have F0 : FilmAt s Q hm a f := B.1
  have z0 : 0 ≤ z := by omega
  have ca : ∀ j : Nat, j < 13 → Ce s hm (a + j) (fTag j).1 (fTag j).2 (500 + f) := F0.2.1
  have f07 := B.2.1
  obtain ⟨s1, Q1, hm1, I1, a1, b1, L1, B1, X1, g1⟩ := c_24b (v := m 102 k) (u := m 102 k) L B h6 (by omega) rfl
  have p1 : I1 (a + 2) q = m 103 k - x1 + x3 := by
    rw [X1.2.2.2.1 (a + 2) (ca 2 (by decide)).1 (by omega) (by rw [(ca 2 (by decide)).2.2.2]; omega)]
    exact hp
  obtain ⟨s2, Q2, hm2, I2, a2, b2, L2, B2, X2, g2⟩ := c_24b (v := m 103 k - x1 + x3) (u := m 103 k - x1 + x3) L1 B1 g1 (by omega) rfl
  obtain ⟨s3, Q3, hm3, I3, a3, b3, L3, B3, X3, g3⟩ := c_24b (v := st) (u := st) L2 B2 g2 (by omega) rfl
  obtain ⟨s4, Q4, hm4, I4, a4, b4, L4, B4, X4, g4⟩ := c_24b (v := z / 256) (u := z / 256) L3 B3 g3 (by omega) rfl
  obtain ⟨s5, Q5, hm5, I5, a5, b5, L5, B5, X5, g5⟩ := c_24b (v := z) (u := z % 256) L4 B4 g4 (by omega) (by omega)
  have Y5 := BF_t (BF_t (BF_t (BF_t X1 X2) X3) X4) X5
  obtain ⟨m1, e1⟩ : ∃ y, y = mB1 m len (m 102 k) := ⟨_, rfl⟩
  obtain ⟨m2, e2⟩ : ∃ y, y = mB1 m1 (len + 1) (m 103 k - x1 + x3) := ⟨_, rfl⟩
  obtain ⟨m3, e3⟩ : ∃ y, y = mB1 m2 (len + 1 + 1) st := ⟨_, rfl⟩
  obtain ⟨m4, e4⟩ : ∃ y, y = mB1 m3 (len + 1 + 1 + 1) (z / 256) := ⟨_, rfl⟩
  obtain ⟨m5, e5⟩ : ∃ y, y = mB1 m4 (len + 1 + 1 + 1 + 1) (z % 256) := ⟨_, rfl⟩
  rw [← e1] at b1 b2 b3 b4 b5 B5
  rw [← e2] at b2 b3 b4 b5 B5
  rw [← e3] at b3 b4 b5 B5
  rw [← e4] at b4 b5 B5
  rw [← e5] at b5 B5
  have M1 : MB m m1 len := by rw [e1]; exact MB_1
  have M2 : MB m1 m2 (len + 1) := by rw [e2]; exact MB_1
  have M3 : MB m2 m3 (len + 1 + 1) := by rw [e3]; exact MB_1
  have M4 : MB m3 m4 (len + 1 + 1 + 1) := by rw [e4]; exact MB_1
  have M5 : MB m4 m5 (len + 1 + 1 + 1 + 1) := by rw [e5]; exact MB_1
  have T2 : MB m m2 len := MB_t (by omega) M1 M2
  have T5 : MB m m5 len := MB_t (by omega) T2 (MB_t (by omega) M3 (MB_t (by omega) M4 M5))
  obtain ⟨w1, w2, w3, w4⟩ := W
  have ba : b ≠ a := fun e => by
    have := (ca 0 (by decide)).2.2.2
    rw [show a + 0 = a from rfl, ← e, ob] at this
    omega
  obtain ⟨t1, t2, t3⟩ := Y5.2.2.1 b w2.1
  obtain ⟨t4, t5, t6⟩ := Y5.2.2.1 43 w1.1
  have n43 : (43 : Nat) ≠ a := by have := F0.1; omega
  have le5 : s.1 ≤ s5.1 := Y5.2.2.2.2.2.1
  have W5 : WrT s5 Q5 43 b := ⟨⟨Nat.lt_of_lt_of_le w1.1 le5, t5.trans w1.2⟩, ⟨Nat.lt_of_lt_of_le w2.1 le5, t2.trans w2.2.1, t3.trans w2.2.2⟩, w3, by rw [Y5.1 43 w1.1 n43]; exact w4⟩
  have Yb : By I5 b (m5 113) n := by
    rw [T5.1 113 (by decide) (by decide)]
    unfold By
    rw [Y5.2.2.2.1 b w2.1 ba (by rw [ob]; omega)]
    exact Y
  obtain ⟨S, R, H, J, d1, d2, LS, BS, XS⟩ := c_23m (x1 := x1) (x3 := x3) (x4 := x4) (x5 := x5) (x6 := k) L5 B5 g5 (by omega) W5 (t1.trans ob) Yb (by rw [T5.2.1 53 (by decide)]; exact h53) n0 n1 hz z1 (by omega)
  obtain ⟨m6, e6⟩ : ∃ y, y = mBy m5 n (len + 1 + 1 + 1 + 1 + 1) z := ⟨_, rfl⟩
  rw [← e6] at d2 BS
  have M6 : MB m5 m6 (len + 1 + 1 + 1 + 1 + 1) := by rw [e6]; exact MB_y z0
  have N5 := MB_t (by omega) M5 M6
  have N4 := MB_t (by omega) M4 N5
  have N3 := MB_t (by omega) M3 N4
  have N2 := MB_t (by omega) M2 N3
  refine ⟨S, R, H, J, m6, ?_, ?_, LS, ?_, BF_t Y5 XS, BF_6 g5 XS, MB_t (by omega) T5 M6, ?_, ?_, ?_, ?_, ?_⟩
  · have h6' := bz_6 h6
    have h6'' := bz_6 g1
    have q7 := F_q F0 0 7 rfl rfl
    have q8 := F_q B1.1 1 8 rfl rfl
    have sz : jshr z 8 = z / 256 := n_shr (k := 8) (by omega) (by omega) (by decide)
    have u1 : I (a + (0 + 1)) q = m 102 k := hk
    have u2 : I1 (a + (1 + 1)) q = m 103 k - x1 + x3 := p1
    unfold jd_27
    rw [F_gr F0, Option.bind_some, q7, Option.bind_some, F_ai F0 h6' (0 + 1) 12 rfl rfl rfl q0 q1, Option.bind_some, u1, F_ck F0, Option.bind_some, a1, Option.bind_some, F_gr B1.1, Option.bind_some, q8, Option.bind_some, F_ai B1.1 h6'' (1 + 1) 12 rfl rfl rfl q0 q1, Option.bind_some, u2, F_ck B1.1, Option.bind_some, a2, Option.bind_some, F_ck B2.1, Option.bind_some, a3, Option.bind_some, F_ck B3.1, Option.bind_some, sz, a4, Option.bind_some, F_ck B4.1, Option.bind_some, a5, Option.bind_some, F_ck B5.1, Option.bind_some, d1, Option.bind_some]
  · have v1 : m1 103 k = m 103 k := by rw [M1.1 103 (by decide) (by decide)]
    have v2 : m2 104 k = st := by rw [T2.1 104 (by decide) (by decide)]; exact hs
    have dz : jdiv z 256 = z / 256 := n_div (by omega) (by omega) (by decide) (by decide)
    have rz : jrem z 256 = z % 256 := n_rem (by omega) (by omega) (by decide) (by decide)
    unfold jd_294_b207
    rw [if_neg hx, y_ma 102 12 rfl rfl k0 k1, Option.bind_some, b1, Option.bind_some, y_ma 103 12 rfl rfl k0 k1, Option.bind_some, v1, b2, Option.bind_some, y_ma 104 12 rfl rfl k0 k1, Option.bind_some, v2, b3, Option.bind_some, dz, b4, Option.bind_some, rz, b5, Option.bind_some, d2, Option.bind_some]
    rfl
  · rw [show len + 5 + z = len + 1 + 1 + 1 + 1 + 1 + z by omega]
    exact BS
  · rw [N2.2.2 len (by omega), e1]
    exact mB1_v
  · rw [N3.2.2 (len + 1) (by omega), e2]
    exact mB1_v
  · rw [N4.2.2 (len + 2) (by omega), e3, show len + 2 = len + 1 + 1 by omega]
    exact mB1_v
  · rw [N5.2.2 (len + 3) (by omega), e4, show len + 3 = len + 1 + 1 + 1 by omega]
    exact mB1_v
  · rw [M6.2.2 (len + 4) (by omega), e5, show len + 4 = len + 1 + 1 + 1 + 1 by omega]
    exact mB1_v
end PicB
