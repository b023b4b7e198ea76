/-! cutting: a kept picture's bytes, both sides -/
section KeepB
variable {s : hS} {Q : hQ} {hm : hO} {I m m' : jM} {a c : Nat} {f len z sp q st : Int} {g : Int → Int}
theorem FBm_m (e47 : m' 76 47 = m 76 47) (e : ∀ i : Int, 0 ≤ i → i < len → m' 112 i % 256 = m 112 i % 256) (B : FBm s Q hm I m a f len) : FBm s Q hm I m' a f len := by
  obtain ⟨F, ff, ⟨y1, y2, y3⟩, y4⟩ := B
  refine ⟨F, ff, ⟨y1, y2, e47.trans y3⟩, ?_⟩
  rcases y4 with h | ⟨b, h1, h2, h3⟩
  · exact Or.inl h
  · exact Or.inr ⟨b, h1, h2, fun i i0 i1 => (h3 i i0 i1).trans (e i i0 i1).symm⟩
theorem keepb (L : Lay s Q hm) (B : FBm s Q hm I m a f len) (h6 : s.1 + 2 < 1000000 + bzR s Q a) (lp : 0 < len) (q0 : 0 ≤ q) (q1 : q < 12) (c1 : c < s.1) (c2 : s.2.2.1 c = 1) (c3 : sp + z ≤ ((s.2.2.2 c : Nat) : Int)) (c4 : s.2.2.2 c ≤ 1000000) (ca : c ≠ a) (co : hm c ≠ 540 + f) (s0 : 0 ≤ sp) (z0 : 0 ≤ z) (z1 : z ≤ 2000) (lz : len + 5 + z ≤ 24067) (b0 : I (a + 1) q % 256 = g 0 % 256) (b1 : I (a + 2) q % 256 = g 1 % 256) (b2 : st % 256 = g 2 % 256) (b3 : (z / 256) % 256 = g 3 % 256) (b4 : z % 256 = g 4 % 256) (Y : ∀ i : Int, 0 ≤ i → i < z → I c (sp + i) % 256 = g (5 + i) % 256) : ∃ (S : hS) (R : hQ) (H : hO) (J : jM), jd_27 a q st (some c) sp z (hh s Q I) = some (hh S R J) ∧ Lay S R H ∧ FBm S R H J (mCp m g len (5 + z)) a f (len + 5 + z) ∧ BF a f s Q hm I S R H J ∧ S.1 + 2 < 1000000 + bzR S R a := by
  have F0 : FilmAt s Q hm a f := B.1
  have cf : ∀ j : Nat, j < 13 → Ce s hm (a + j) (fTag j).1 (fTag j).2 (500 + f) := F0.2.1
  have f07 := B.2.1
  obtain ⟨s1, Q1, hm1, I1, a1, -, L1, B1, X1, g1⟩ := c_24b (v := I (a + 1) q) (u := g 0) L B h6 (by omega) b0
  have p1 : I1 (a + 2) q = I (a + 2) q := by
    rw [X1.2.2.2.1 (a + 2) (cf 2 (by decide)).1 (by omega) (by rw [(cf 2 (by decide)).2.2.2]; omega)]
  obtain ⟨s2, Q2, hm2, I2, a2, -, L2, B2, X2, g2⟩ := c_24b (v := I (a + 2) q) (u := g 1) L1 B1 g1 (by omega) b1
  obtain ⟨s3, Q3, hm3, I3, a3, -, L3, B3, X3, g3⟩ := c_24b (v := st) (u := g 2) L2 B2 g2 (by omega) b2
  obtain ⟨s4, Q4, hm4, I4, a4, -, L4, B4, X4, g4⟩ := c_24b (v := z / 256) (u := g 3) L3 B3 g3 (by omega) b3
  obtain ⟨s5, Q5, hm5, I5, a5, -, L5, B5, X5, g5⟩ := c_24b (v := z) (u := g 4) L4 B4 g4 (by omega) b4
  have Y5 := BF_t (BF_t (BF_t (BF_t X1 X2) X3) X4) X5
  obtain ⟨t1, t2, t3⟩ := Y5.2.2.1 c c1
  have ic : I5 c = I c := Y5.2.2.2.1 c c1 ca co
  have e1 : ∀ t : Int, 0 ≤ t → mB1 (mCp m g len t) (len + t) (g t) = mCp m g len (t + 1) := fun t t0 => mCp_s t0
  have m0 : mCp m g len 0 = m := mCp_0 B.2.2.1.2.2
  have B5' : FBm s5 Q5 hm5 I5 (mCp m g len 5) a f (len + 5) := by
    have h0 : mB1 m len (g 0) = mCp m g len 1 := by
      have := e1 0 (by decide)
      rw [m0, Int.add_zero] at this
      exact this
    have h1 : mB1 (mCp m g len 1) (len + 1) (g 1) = mCp m g len 2 := e1 1 (by decide)
    have h2 : mB1 (mCp m g len 2) (len + 1 + 1) (g 2) = mCp m g len 3 := by rw [show len + 1 + 1 = len + 2 by omega]; exact e1 2 (by decide)
    have h3 : mB1 (mCp m g len 3) (len + 1 + 1 + 1) (g 3) = mCp m g len 4 := by rw [show len + 1 + 1 + 1 = len + 3 by omega]; exact e1 3 (by decide)
    have h4 : mB1 (mCp m g len 4) (len + 1 + 1 + 1 + 1) (g 4) = mCp m g len 5 := by rw [show len + 1 + 1 + 1 + 1 = len + 4 by omega]; exact e1 4 (by decide)
    rw [h0, h1, h2, h3, h4, show len + 1 + 1 + 1 + 1 + 1 = len + 5 by omega] at B5
    exact B5
  obtain ⟨S, R, H, J, d1, LS, BS, XS⟩ := c_23k (g := fun i => g (5 + i)) (sp := sp) (z := z) L5 B5' g5 (by omega) (Nat.lt_of_lt_of_le c1 Y5.2.2.2.2.2.1) (t2.trans c2) (by rw [t3]; exact c3) (by rw [t3]; exact c4) s0 (fun i i0 i1 => by rw [ic]; exact Y i i0 i1) z0 (by omega)
  refine ⟨S, R, H, J, ?_, LS, ?_, BF_t Y5 XS, BF_6 g5 XS⟩
  · have h6' := bz_6 h6
    have h6'' := bz_6 g1
    have q7 := F_q F0 0 7 rfl rfl
    have q8 := F_q B1.1 1 8 rfl rfl
    have sz : jshr z 8 = z / 256 := n_shr (k := 8) (by omega) (by omega) (by decide)
    have u2 : I1 (a + (1 + 1)) q = I (a + 2) q := p1
    unfold jd_27
    rw [F_gr F0, Option.bind_some, q7, Option.bind_some, F_ai F0 h6' (0 + 1) 12 rfl rfl rfl q0 q1, Option.bind_some, F_ck F0, Option.bind_some, show I (a + (0 + 1)) q = I (a + 1) q from rfl, a1, Option.bind_some, F_gr B1.1, Option.bind_some, q8, Option.bind_some, F_ai B1.1 h6'' (1 + 1) 12 rfl rfl rfl q0 q1, Option.bind_some, u2, F_ck B1.1, Option.bind_some, a2, Option.bind_some, F_ck B2.1, Option.bind_some, a3, Option.bind_some, F_ck B3.1, Option.bind_some, sz, a4, Option.bind_some, F_ck B4.1, Option.bind_some, a5, Option.bind_some, F_ck B5.1, Option.bind_some, d1, Option.bind_some]
  · refine FBm_m ?_ (fun i i0 i1 => ?_) BS
    · rw [mCp_f.2.2.1, mCp_f.2.2.1]
      omega
    · by_cases d : i < len
      · rw [mCp_f.2.2.2.1 i d, mCp_f.2.2.2.1 i (by omega), mCp_f.2.2.2.1 i d]
      · by_cases d2 : i < len + 5
        · rw [mCp_f.2.2.2.2 i (by omega) (by omega), mCp_f.2.2.2.1 i d2, mCp_f.2.2.2.2 i (by omega) (by omega)]
        · rw [mCp_f.2.2.2.2 i (by omega) (by omega), mCp_f.2.2.2.2 i (by omega) (by omega), show 5 + (i - (len + 5)) = i - len by omega]
end KeepB
