/-! making: one picture of a group, whole, both sides -/
section MkPic
variable {s s' : hS} {Q Q' : hQ} {hm hm' : hO} {I I' m m' : jM} {a p b src : Nat} {f w h g k st n d T len sz x x5 : Int}
theorem BF_Sm (F : FilmAt s Q hm a f) (X : BF a f s Q hm I s' Q' hm' I') : Sm (PG f) s Q hm I s' Q' hm' I' := by
  obtain ⟨a1, a2, a3, a4, a5, a6, a7, a8⟩ := X
  have c0 : Ce s hm a 10 0 (500 + f) := F.2.1 0 (by decide)
  refine ⟨a6, fun y y1 y2 => ?_⟩
  have ya : y ≠ a := fun e => by
    rw [e, c0.2.2.2] at y2
    exact y2.2.2.1 rfl
  obtain ⟨b1, b2, b3⟩ := a3 y y1
  exact ⟨b2, b3, a1 y y1 ya, a4 y y1 ya y2.2.2.2.1, b1⟩
theorem BF_Gm (q43 : Q' 43 = Q 43) (X : BF a f s Q hm I s' Q' hm' I') : Gm a s Q s' Q' := by
  obtain ⟨-, -, -, -, -, a6, a7, a8⟩ := X
  have e : nW Q' = nW Q := by unfold nW; rw [q43]
  refine ⟨a6, ?_, ?_⟩
  · rw [e]
    generalize bzR s Q a = z1 at *
    generalize bzR s' Q' a = z2 at *
    generalize nW Q = y1 at *
    omega
  · rw [e]
    generalize bzR s Q a = z1 at *
    generalize bzR s' Q' a = z2 at *
    generalize nW Q = y1 at *
    omega
/-- the invariant while a group is made -/
def MkI (s : hS) (Q : hQ) (hm : hO) (I m : jM) (a : Nat) (f w h g k n d T x len : Int) : Prop := MkC s Q hm I m a f w h T 0 ∧ GrC I m a g n d T ∧ FBm s Q hm I m a f len ∧ (7 ≤ len ∧ len ≤ 7 + 2005 * (g + k)) ∧ (∀ j : Int, 0 ≤ j → j < k → ∃ b, Q (a + 9) (g + j) = some b ∧ RfE s Q I m b w h j) ∧ HV (m 82 5) x (m 76 82) (g + k) ∧ HBy (m 112) (I (a + 1)) (I (a + 2)) 0 (g + k) len
/-- what stays while a film is made -/
def MkF (s : hS) (Q : hQ) (hm : hO) (I m : jM) (a : Nat) (f : Int) (S : hS) (R : hQ) (H : hO) (J m' : jM) : Prop := (Lay S R H ∧ FilmAt S R H a f) ∧ (∀ b, R 43 0 = some b → 153 ≤ b ∧ Ce S H b 1 4000 560) ∧ Sm (PG f) s Q hm I S R H J ∧ MG m m' ∧ Gm a s Q S R ∧ J (a + 1) = I (a + 1) ∧ J (a + 2) = I (a + 2) ∧ J (a + 8) = I (a + 8) ∧ ∀ i : Int, i < 7 → m' 112 i = m 112 i
theorem MkF_t {s2 : hS} {Q2 : hQ} {hm2 : hO} {I2 m2 : jM} (A : MkF s Q hm I m a f s' Q' hm' I' m') (B : MkF s' Q' hm' I' m' a f s2 Q2 hm2 I2 m2) : MkF s Q hm I m a f s2 Q2 hm2 I2 m2 := ⟨B.1, B.2.1, Sm_trans A.2.2.1 B.2.2.1, MG_t A.2.2.2.1 B.2.2.2.1, Gm_t A.2.2.2.2.1 B.2.2.2.2.1, B.2.2.2.2.2.1.trans A.2.2.2.2.2.1, B.2.2.2.2.2.2.1.trans A.2.2.2.2.2.2.1, B.2.2.2.2.2.2.2.1.trans A.2.2.2.2.2.2.2.1, fun i hi => (B.2.2.2.2.2.2.2.2 i hi).trans (A.2.2.2.2.2.2.2.2 i hi)⟩
theorem Mad_F {nb : Int} {S : hS} {R : hQ} {H : hO} {J : jM} (F : FilmAt s Q hm a f) (f0 : 0 ≤ f) (f8 : f < 8) (q0 : 0 ≤ g + k) (q1 : g + k < 12) (A : Mad s Q hm I m a p src f w h g k st nb S R H J m' b) : MkF s Q hm I m a f S R H J m' := by
  obtain ⟨L1, F1, D, S1, ip, M1, G1, -⟩ := A
  have pf : PFp (200 + 12 * f + (g + k)) (500 + f) := ⟨by omega, by omega, by omega⟩
  have cj : ∀ j : Nat, j < 13 → R (a + j) = Q (a + j) ∧ J (a + j) = I (a + j) := fun j hj => (Ce_fr S1 (F.2.1 j hj) pf).2
  have bz : bzR S R a = bzR s Q a := bzR_c (by rw [show R a = Q a from (cj 0 (by decide)).1]) (fun c hc => by
    obtain ⟨-, y, -, hy⟩ := F.2.2.2.1 c hc
    have := (Ce_fr S1 hy ⟨by omega, by omega, by omega⟩).1
    rw [this.2.2.1, hy.2.2.1])
  refine ⟨⟨L1, F1⟩, MdP_hb D, Sm_mono S1 (fun o ho => ?_), MFq_G M1, ⟨G1.1, ?_, ?_⟩, (cj 1 (by decide)).2, (cj 2 (by decide)).2, (cj 8 (by decide)).2, fun i _ => by rw [M1.1 112 (by decide) (by decide) (by decide) (by decide) (by decide)]⟩
  · unfold PG at ho
    exact ⟨by omega, by omega, by omega⟩
  · rw [bz]
    have := G1.2.1
    generalize bzR s Q a = z1
    omega
  · rw [bz]
    have := G1.2.2
    generalize bzR s Q a = z1
    omega
theorem mkpic (Z : MkI s Q hm I m a f w h g k n d T x len) (k0 : 0 ≤ k) (k1 : k < n) (h6 : s.1 + 8 < 1000000) (hsz : m 82 5 = sz) (h5 : x5 = if jw sz ≤ 0 then 0 else 1) : ∃ (S : hS) (R : hQ) (H : hO) (J m' : jM), MkF s Q hm I m a f S R H J m' ∧ ((jd_66_s14 42 (some a) sz x (g + k) (hh s Q I) = some (.inr (.inl (hh S R J))) ∧ (jd_294_s42 g g (m 82 4) x5 k m = some (.inr (.inl m')) ∨ jd_294_s42 g g (m 82 4) x5 k m = some (.inr (.inr (.inl m'))))) ∨ ∃ x' len' : Int, jd_66_s14 42 (some a) sz x (g + k) (hh s Q I) = some (.inl (x', g + k + 1, hh S R J)) ∧ jd_294_s42 g g (m 82 4) x5 k m = some (.inl (k + 1, m')) ∧ MkI S R H J m' a f w h g (k + 1) n d T x' len') := by
  obtain ⟨C, Gr, B, ⟨l7, l1⟩, Rf, V, W⟩ := Z
  obtain ⟨p, src, qp, q68, pl, ip, X⟩ := PKm_of C Gr k0 k1 Rf
  obtain ⟨⟨m35, m36⟩, G, ⟨g0, n1, gn⟩, hj⟩ := id Gr
  obtain ⟨⟨L, F, f0, f8⟩, hb, -, ⟨T1, T2, i5, q6⟩, c5, -, c8, c9⟩ := id C
  obtain ⟨S, R, H, J, m1, b, nb, st, hv, A, alt⟩ := mk_a C k0 (by omega) g0 X q68 pl ip m35 k1 (by omega) (by omega) hsz h5 (by rw [← hsz]; exact V)
  have A' := Mad_F F f0 f8 (by omega) (by omega) A
  rcases alt with ⟨e1, e2⟩ | ⟨e1, e2, hV⟩
  · exact ⟨S, R, H, J, m1, A', Or.inl ⟨e1, Or.inl e2⟩⟩
  obtain ⟨z, hz⟩ : ∃ z, (nb + 7) / 8 = z := ⟨_, rfl⟩
  rw [hz] at e1 e2 hV
  obtain ⟨L1, F1, D1, S1, ip1, M1, G1, sb⟩ := id A
  have zb : 0 ≤ z ∧ z ≤ 3826 := by have := D1.2.1; omega
  rw [e1, e2]
  obtain ⟨m6, hm6⟩ : ∃ y, y = jms m1 76 83 (m1 76 83 + (5 + z)) := ⟨_, rfl⟩
  have o6 : ∀ c : Nat, c ≠ 76 → m6 c = m1 c := fun c hc => by rw [hm6, jms_o hc]
  have z6 : ∀ y : Int, y ≠ 83 → m6 76 y = m1 76 y := fun y hy => by rw [hm6, jms_i hy]
  have A6 : Mad s Q hm I m a p src f w h g k st nb S R H J m6 b := ⟨L1, F1, MdP_m o6 (z6 53 (by decide)) D1, S1, ip1, MFq_t M1 (by rw [hm6]; exact MFq_83 D1.2.2.2), G1, sb⟩
  have F6 := Mad_F F f0 f8 (by omega) (by omega) A6
  by_cases c : z ≤ 2000
  · have pf : PFp (200 + 12 * f + (g + k)) (500 + f) := ⟨by omega, by omega, by omega⟩
    have cj : ∀ j : Nat, j < 13 → R (a + j) = Q (a + j) ∧ J (a + j) = I (a + j) := fun j hj => (Ce_fr S1 (F.2.1 j hj) pf).2
    have M6 : MFq m m6 k st := A6.2.2.2.2.2.1
    have e102 : m6 102 = m 102 := M6.1 102 (by decide) (by decide) (by decide) (by decide) (by decide)
    have e103 : m6 103 = m 103 := M6.1 103 (by decide) (by decide) (by decide) (by decide) (by decide)
    have e112 : m6 112 = m 112 := M6.1 112 (by decide) (by decide) (by decide) (by decide) (by decide)
    have B6 : FBm S R H J m6 a f len := by
      obtain ⟨-, ff, ⟨y1, y2, y3⟩, y4⟩ := B
      refine ⟨F1, ff, ⟨by rw [show J a = I a from (cj 0 (by decide)).2]; exact y1, y2, by rw [M6.2.1 47 (by decide) (by decide) (by decide) (by decide) (by decide)]; exact y3⟩, ?_⟩
      rcases y4 with y4 | ⟨c, y5, y6, y7⟩
      · exact Or.inl y4
      · obtain ⟨-, y, -, hy⟩ := F.2.2.2.1 c y5
        obtain ⟨t1, -, t3⟩ := Ce_fr S1 hy ⟨by omega, by omega, by omega⟩
        refine Or.inr ⟨c, by rw [show R a = Q a from (cj 0 (by decide)).1]; exact y5, by rw [t1.2.2.1, ← hy.2.2.1]; exact y6, ?_⟩
        rw [t3, e112]
        exact y7
    have D6 : MdP S R H J m6 p b w h k st nb := A6.2.2.1
    obtain ⟨⟨W6, b153, Cb, By6, n53⟩, ⟨nb0, nb1⟩, Rf6, s104⟩ := D6
    have g6 : S.1 + 2 < 1000000 + bzR S R a := by
      have := G1.2.1
      have := nW_le (Q := R)
      generalize bzR S R a = z1
      omega
    obtain ⟨u1, u2, u3, u4⟩ := hj k k0 k1
    obtain ⟨S3, R3, H3, J3, m3, r1, r2, L3, B3, X3, g3, MB3, v0, v1, v2, v3, v4⟩ := picb (x1 := g) (x3 := g) (x4 := m 82 4) (x5 := x5) (q := g + k) (k := k) (st := st) L1 B6 g6 (by omega) W6 Cb.2.2.2 By6 n53 nb0 nb1 hz c (by omega) (by omega) (by omega) k0 (by omega) (by rw [(cj 1 (by decide)).2, e102, u1]; exact u3) (by rw [(cj 2 (by decide)).2, e103, u4, u2]; omega) s104 (by rw [n_jw (z := g) (by omega) (by omega)]; omega)
    have F3 : FilmAt S3 R3 H3 a f := B3.1
    have S3' := BF_Sm F1 X3
    have n43 : (43 : Nat) ≠ a := by have := F.1; omega
    have q43 : R3 43 = R 43 := X3.1 43 W6.1.1 n43
    have nba : b ≠ a := fun e => by
      have := (F1.2.1 0 (by decide)).2.2.2
      rw [show a + 0 = a from rfl, ← e, Cb.2.2.2] at this
      omega
    have hb3 : ∀ b, R3 43 0 = some b → 153 ≤ b ∧ Ce S3 H3 b 1 4000 560 := fun y hy => by
      rw [q43] at hy
      obtain ⟨y1, y2⟩ := MdP_hb D1 y hy
      obtain ⟨t1, t2, t3⟩ := X3.2.2.1 y y2.1
      exact ⟨y1, Nat.lt_of_lt_of_le y2.1 X3.2.2.2.2.2.1, t2.trans y2.2.1, t3.trans y2.2.2.1, t1.trans y2.2.2.2⟩
    have rw3 : ∀ j : Nat, 0 < j → j < 13 → R3 (a + j) = Q (a + j) ∧ J3 (a + j) = I (a + j) := fun j j0 j1 => by
      have cc := F1.2.1 j j1
      rw [X3.1 (a + j) cc.1 (by omega), X3.2.2.2.1 (a + j) cc.1 (by omega) (by rw [cc.2.2.2]; omega)]
      exact cj j j1
    have mg3 : MG m6 m3 := ⟨fun y y1 y2 y3 => MB3.1 y y1 (by omega), fun y hy => MB3.2.1 y (by omega)⟩
    have FF : MkF S R H J m6 a f S3 R3 H3 J3 m3 := ⟨⟨L3, F3⟩, hb3, S3', mg3, BF_Gm q43 X3, by rw [(rw3 1 (by decide) (by decide)).2, (cj 1 (by decide)).2], by rw [(rw3 2 (by decide) (by decide)).2, (cj 2 (by decide)).2], by rw [(rw3 8 (by decide) (by decide)).2, (cj 8 (by decide)).2], fun i hi => MB3.2.2 i (by omega)⟩
    have FA := MkF_t F6 FF
    have jp : ∀ (y : Nat) (j : Int), 0 ≤ j → j < 12 → Q (a + 9) j = some y → J3 y = I y ∧ (j ≠ g + k → J3 (y + 1) = I (y + 1)) ∧ J3 (y + 1) = J (y + 1) := fun y j j0 j1 hy => by
      have P0 := F.2.2.2.2 j j0 j1 y hy
      have P1 := F1.2.2.2.2 j j0 j1 y (by rw [(cj 9 (by decide)).1]; exact hy)
      have ya : y ≠ a := fun e => by
        have := P0.2.1.2.2.2
        have c0 := (F.2.1 0 (by decide)).2.2.2
        rw [e, show a = a + 0 from rfl, c0] at this
        omega
      have yb : y + 1 ≠ a := fun e => by
        have := P0.2.2.1.2.2.2
        have c0 := (F.2.1 0 (by decide)).2.2.2
        rw [e, show a = a + 0 from rfl, c0] at this
        omega
      have t1 := X3.2.2.2.1 y P1.2.1.1 ya (by rw [P1.2.1.2.2.2]; omega)
      have t2 := X3.2.2.2.1 (y + 1) P1.2.2.1.1 yb (by rw [P1.2.2.1.2.2.2]; omega)
      rw [t1, t2]
      by_cases e : j = g + k
      · have : y = p := by
          rw [e, qp] at hy
          cases hy
          rfl
        rw [this]
        exact ⟨ip1, fun h => absurd e h, rfl⟩
      · obtain ⟨-, t3, t4⟩ := PicAt_fr S1 P0 (show PFp (200 + 12 * f + (g + k)) (200 + 12 * f + j) from ⟨by omega, by omega, by omega⟩)
        exact ⟨t3, fun _ => t4, rfl⟩
    have e109 : m3 109 = m6 109 := MB3.1 109 (by decide) (by decide)
    refine ⟨S3, R3, H3, J3, m3, FA, Or.inr ⟨hv - 8 * z, len + 5 + z, ?_, ?_, MkC_fr C FA.2.2.1 L3 F3 hb3 FA.2.2.2.1 (fun j j0 j1 => ?_) FA.2.2.2.2.2.1, ⟨⟨?_, ?_⟩, G, ⟨g0, n1, gn⟩, fun j j0 j1 => ?_⟩, B3, ⟨by omega, by omega⟩, fun j j0 j1 => ?_, ?_, ?_⟩⟩
    · have t0 : R 42 ((0 : Nat) : Int) = some 43 := Lq L1 rfl
      have t1 : R 43 ((0 : Nat) : Int) = some b := W6.2.2.2
      unfold jd_66_b150
      rw [n_jw (z := z) (by omega) (by omega), if_pos c, y_gr L1 42 4 rfl rfl, Option.bind_some, t0, Option.bind_some, y_gr L1 43 0 rfl rfl, Option.bind_some, t1, Option.bind_some, F_ck F1, Option.bind_some, r1, Option.bind_some]
    · unfold jd_294_b179
      rw [Option.bind_some, n_jw (z := z) (by omega) (by omega), if_pos c, ← hm6]
      exact r2
    · obtain ⟨y, y1, y2, y3⟩ := c8 j j0 j1
      exact ⟨y, by rw [(rw3 9 (by decide) (by decide)).1]; exact y1, by rw [(jp y j j0 (by omega) y1).1]; exact y2, by rw [(jp y j j0 (by omega) y1).1]; exact y3⟩
    · rw [MB3.2.1 35 (by decide), M6.2.1 35 (by decide) (by decide) (by decide) (by decide) (by decide)]
      exact m35
    · rw [MB3.2.1 36 (by decide), M6.2.1 36 (by decide) (by decide) (by decide) (by decide) (by decide)]
      exact m36
    · rw [MB3.1 102 (by decide) (by decide), MB3.1 103 (by decide) (by decide), e102, e103, FA.2.2.2.2.2.1, FA.2.2.2.2.2.2.1]
      exact hj j j0 j1
    · by_cases e : j = k
      · rw [e]
        refine ⟨p, by rw [(rw3 9 (by decide) (by decide)).1]; exact qp, ?_⟩
        obtain ⟨t1, -, t3⟩ := jp p (g + k) (by omega) (by omega) qp
        have C2 : isSd w ∧ isSd h := ⟨C.2.2.1.2.2.2.1, C.2.2.1.2.2.2.2⟩
        refine RfE_tr Rf6 (PcC_at (F3.2.2.2.2 (g + k) (by omega) (by omega) p (by rw [(rw3 9 (by decide) (by decide)).1]; exact qp))) (by rw [t1, ip1]) t3 (fun i _ _ => by rw [e109]) C2.1 C2.2
      · obtain ⟨y, y1, y2⟩ := Rf j j0 (by omega)
        have C2 : isSd w ∧ isSd h := ⟨C.2.2.1.2.2.2.1, C.2.2.1.2.2.2.2⟩
        obtain ⟨t1, t2, -⟩ := jp y (g + j) (by omega) (by omega) y1
        exact ⟨y, by rw [(rw3 9 (by decide) (by decide)).1]; exact y1, RfE_tr y2 (PcC_at (F3.2.2.2.2 (g + j) (by omega) (by omega) y (by rw [(rw3 9 (by decide) (by decide)).1]; exact y1))) t1 (t2 (by omega)) (fun i i0 i1 => by rw [e109, M6.2.2.2 i (Or.inl (by omega))]) C2.1 C2.2⟩
    · rw [MB3.1 82 (by decide) (by decide), M6.1 82 (by decide) (by decide) (by decide) (by decide) (by decide), hsz, MB3.2.1 82 (by decide), z6 82 (by decide), show g + (k + 1) = g + k + 1 by omega]
      exact hV c
    · rw [FA.2.2.2.2.2.1, FA.2.2.2.2.2.2.1, show g + (k + 1) = g + k + 1 by omega]
      refine HBy_s (st := st) (by omega) l7 W zb.1 c (fun _ => sb) (fun e => absurd rfl e) (fun i hi => by rw [MB3.2.2 i hi, e112]) ?_ ?_ v2 v3 v4
      · rw [v0, e102, u1, u3]
      · rw [v1, e103, u2, u4, show g + ssG n d k - g + g = g + ssG n d k by omega]
  · refine ⟨S, R, H, J, m6, F6, Or.inl ⟨?_, Or.inr ?_⟩⟩
    · unfold jd_66_b150
      rw [n_jw (z := z) (by omega) (by omega), if_neg c]
    · unfold jd_294_b179
      rw [Option.bind_some, n_jw (z := z) (by omega) (by omega), if_neg c, n_jw (z := g) (by omega) (by omega), if_neg (show ¬ g = -1 by omega), ← hm6]
end MkPic
