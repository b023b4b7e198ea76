/-! cutting: a picture made anew, both sides -/
section Anew1
variable {s : hS} {Q : hQ} {hm : hO} {I m : jM} {a b : Nat} {f fo w h T len cnt n d k st lo hi : Int}
/-- the group that is made anew -/
def GrD (I m : jM) (a : Nat) (cnt n d T : Int) : Prop := (m 76 35 = n ∧ m 76 36 = 0) ∧ LG (kkG n d) (ssG n d) n n ∧ (0 ≤ cnt ∧ 1 ≤ n ∧ cnt + n ≤ T) ∧ ∀ j : Int, 0 ≤ j → j < n → m 102 j = kkG n d j ∧ m 103 j = ssG n d j ∧ I (a + 1) (cnt + j) = kkG n d j ∧ I (a + 2) (cnt + j) = cnt + ssG n d j
/-- the pictures that are made anew -/
def SrD (s : hS) (Q : hQ) (hm : hO) (I m : jM) (b : Nat) (f w h lo n : Int) : Prop := ∀ i : Int, 0 ≤ i → i < n → ∃ (o os : Int) (src : Nat), I (b + 6) (lo + i) = o ∧ (0 ≤ o ∧ o < 12) ∧ Q (b + 9) o = some src ∧ PicAt s Q hm src os ∧ (100 ≤ os ∧ os < 200 + 12 * f) ∧ Pix I src w h (fun x => m 121 (864 * i + x))
theorem PKm_d (C : CuB s Q hm I m a f w h T) (Gr : GrD I m a cnt n d T) (So : SrD s Q hm I m b f w h lo n) (kz : ∀ j : Int, 0 ≤ j → j < cnt → okI (I (a + 1) j)) (k0 : 0 ≤ k) (k1 : k < n) (R : ∀ j : Int, 0 ≤ j → j < k → ∃ b, Q (a + 9) (cnt + j) = some b ∧ RfE s Q I m b w h j) : ∃ (p src : Nat) (o os : Int), Q (a + 9) (cnt + k) = some p ∧ I (b + 6) (lo + ssG n d k) = o ∧ (0 ≤ o ∧ o < 12) ∧ Q (b + 9) o = some src ∧ PKm s Q hm I m a p src f w h cnt k (m 102 k) (m 82 3) os := by
  obtain ⟨⟨L, F, f0, f8⟩, -, ⟨m32, m33, m34, sw, sh⟩, ⟨T1, T2, q6⟩, c5, c8⟩ := C
  obtain ⟨⟨m35, m36⟩, G, ⟨g0, n1, gn⟩, hj⟩ := Gr
  obtain ⟨u1, u2, u3, u4⟩ := hj k k0 k1
  obtain ⟨-, -, v3, v4⟩ := LG_k G k0 k1
  obtain ⟨o, os, src, h1, ho, h2, h3, h4, ⟨h5, h6, -, -, h7⟩⟩ := So (ssG n d k) v3 v4
  obtain ⟨p, p1, p2, p3⟩ := c8 (cnt + k) (by omega) (by omega)
  have z0 : m 102 0 = 0 := by rw [(hj 0 (by omega) (by omega)).1]; exact G.1
  have ac : ∀ t : Nat, (t : Int) ≤ n → anc (m 102) 0 t = anc (kkG n d) 0 t := fun t ht => anc_c (fun i i0 i1 => (hj i (by omega) (by omega)).1)
  have so := (c5 3 (by decide) (by decide)).2
  refine ⟨p, src, o, os, p1, h1, ho, h2, F, ⟨f0, f8⟩, ⟨m32, m33, m34, m36, sw, sh⟩, ⟨g0, k0, by omega, rfl⟩, fun j j0 j1 => ?_, kz, ⟨z0, fun e => ?_⟩, R, ⟨p1, p2, p3⟩, ⟨h3, h4, h5, h6, by omega, by omega, fun pl j p0 p2 j0 j1 => ?_⟩, ⟨rfl, ?_⟩⟩
  · obtain ⟨w1, -, w3, -⟩ := hj j j0 (by omega)
    obtain ⟨w5, w6, -, -⟩ := LG_k G j0 (show j < n by omega)
    rw [w1, w3]
    exact ⟨rfl, w5, w6⟩
  · have k2 : 1 ≤ k := by
      by_cases c : k = 0
      · rw [c, z0] at e
        exact absurd e (by decide)
      · omega
    rcases (G.2.2 k k2 k1).2 with ⟨e1, -⟩ | ⟨-, -, e3, -⟩
    · omega
    · rw [ac k.toNat (by omega)]
      have ar := anc_r (K := kkG n d) (fr := 0) k.toNat
      exact anc_ge (K := m 102) (by rw [z0]; decide) (by omega)
  · rw [u2]
    exact h7 pl j p0 p2 j0 j1
  · unfold stOk at so
    rcases so with ⟨x, -⟩ | ⟨x, y⟩
    · omega
    · exact ⟨x, y⟩
theorem CuB_k {S : hS} {R : hQ} {H : hO} {J m' : jM} (C : CuB s Q hm I m a f w h T) (A : MkF s Q hm I m a f S R H J m') (c8 : ∀ j : Int, 0 ≤ j → j < T → ∃ p, R (a + 9) j = some p ∧ J p 0 = w ∧ J p 1 = h) : CuB S R H J m' a f w h T := CuB_fr C (CuF_k A) A.1.1 A.1.2 A.2.1 (by
  have y0 := C.1.2.2.1
  have y1 := C.1.2.2.2
  rw [(Lay_fr (a := 42) C.1.1 A.2.2.1 (by decide) (by unfold PG; omega)).1]
  exact C.2.2.2.1.2.2) c8
theorem anew1 (C : CuB s Q hm I m a f w h T) (Gr : GrD I m a cnt n d T) (B : FBm s Q hm I m a f len) (l7 : 7 ≤ len) (l1 : len ≤ 7 + 2005 * (cnt + k)) (Rf : ∀ j : Int, 0 ≤ j → j < k → ∃ b, Q (a + 9) (cnt + j) = some b ∧ RfE s Q I m b w h j) (W : HBy (m 112) (I (a + 1)) (I (a + 2)) 0 (cnt + k) len) (i5 : I 42 5 = cnt + k) (kz : ∀ j : Int, 0 ≤ j → j < cnt → okI (I (a + 1) j)) (Fo : FilmAt s Q hm b fo) (So : SrD s Q hm I m b f w h lo n) (k0 : 0 ≤ k) (k1 : k < n) (h6 : s.1 + 8 < 1000000) (st0 : 1 ≤ st) (st1 : st ≤ 31) (l0 : 0 ≤ lo) (lh : lo + n = hi + 1) (h12 : hi < 12) : ∃ (S : hS) (R : hQ) (H : hO) (J m' : jM), CuF s Q hm I m a f S R H J m' ∧ CuB S R H J m' a f w h T ∧ ((jd_71_s29 42 (some a) (some b) lo hi st cnt (lo + k) (hh s Q I) = some (.inr (.inl (hh S R J))) ∧ jd_294_s42 0 cnt st 0 k m = some (.inr (.inr (.inl m')))) ∨ ∃ len' : Int, jd_71_s29 42 (some a) (some b) lo hi st cnt (lo + k) (hh s Q I) = some (.inl (lo + k + 1, hh S R J)) ∧ jd_294_s42 0 cnt st 0 k m = some (.inl (k + 1, m')) ∧ GrD J m' a cnt n d T ∧ FBm S R H J m' a f len' ∧ (7 ≤ len' ∧ len' ≤ 7 + 2005 * (cnt + (k + 1))) ∧ (∀ j : Int, 0 ≤ j → j < k + 1 → ∃ b, R (a + 9) (cnt + j) = some b ∧ RfE S R J m' b w h j) ∧ HBy (m' 112) (J (a + 1)) (J (a + 2)) 0 (cnt + (k + 1)) len' ∧ J 42 5 = cnt + (k + 1) ∧ (J (a + 1) = I (a + 1) ∧ J (a + 2) = I (a + 2) ∧ J (a + 8) = I (a + 8)) ∧ (m' 76 91 = m 76 91 ∧ m' 134 = m 134 ∧ m' 121 = m 121)) := by
  obtain ⟨p, src, o, os, qp, io, ho, qsrc, X⟩ := PKm_d C Gr So kz k0 k1 Rf
  obtain ⟨⟨m35, m36⟩, G, ⟨g0, n1, gn⟩, hj⟩ := id Gr
  obtain ⟨⟨L, F, f0, f8⟩, hb, -, ⟨T1, T2, q6⟩, c5, c8⟩ := id C
  obtain ⟨S, R, H, J, m1, b', nb, e1, e2, L1, X1, D1, S1, ip1, M1, G1⟩ := pic_2 (st := st) L (by omega) hb X st0 st1
  obtain ⟨z, hz⟩ : ∃ z, (nb + 7) / 8 = z := ⟨_, rfl⟩
  rw [hz] at e1 e2
  have zb : 0 ≤ z ∧ z ≤ 3826 := by have := D1.2.1; omega
  have a153 := F.1
  have s153 := L.1
  obtain ⟨m6, hm6⟩ : ∃ y, y = jms m1 76 83 (m1 76 83 + (5 + z)) := ⟨_, rfl⟩
  have o6 : ∀ c : Nat, c ≠ 76 → m6 c = m1 c := fun c hc => by rw [hm6, jms_o hc]
  have z6 : ∀ y : Int, y ≠ 83 → m6 76 y = m1 76 y := fun y hy => by rw [hm6, jms_i hy]
  have A6 : Mad s Q hm I m a p src f w h cnt k st nb S R H J m6 b' := ⟨L1, X1.1, MdP_m o6 (z6 53 (by decide)) D1, S1, ip1, MFq_t (MFq_p M1) (by rw [hm6]; exact MFq_83 D1.2.2.2), G1, ⟨st0, st1⟩⟩
  have F6 := Mad_F F f0 f8 (by omega) (by omega) A6
  have F1 := X1.1
  have pf : PFp (200 + 12 * f + (cnt + k)) (500 + f) := ⟨by omega, by omega, by omega⟩
  have cj : ∀ j : Nat, j < 13 → R (a + j) = Q (a + j) ∧ J (a + j) = I (a + j) := fun j hj => (Ce_fr S1 (F.2.1 j hj) pf).2
  have u5 : J 42 5 = cnt + k := by
    rw [(Lay_fr (a := 42) L S1 (by decide) (show PFp (200 + 12 * f + (cnt + k)) (1000 + ((42 : Nat) : Int)) from ⟨by omega, by omega, by omega⟩)).2]
    exact i5
  have ec : jd_71_s29 42 (some a) (some b) lo hi st cnt (lo + k) (hh s Q I) = (if z ≤ 2000 then ((jgi (hh S R J) 42 4 5).bind fun v57 => ((jgr (hh S R J) 42 4 0).bind fun r59 => ((r59).bind fun a61 => ((jgr (hh S R J) a61 0 0).bind fun r63 => ((some a).bind fun a65 => ((jck (hh S R J) a65 2).bind fun u67 => ((jd_27 a65 v57 st r63 0 z (hh S R J)).bind fun h69 => ((jgi h69 42 4 5).bind fun v71 => ((jpi h69 42 4 5 (v71 + 1)).bind fun h73 => some (.inl ((lo + k + 1), h73))))))))))) else some (.inr (.inl (hh S R J)))) := by
    have q15 : Q b ((15 : Nat) : Int) = some (b + 9) := F_q Fo 8 15 rfl rfl
    have q12 := F_q Fo 5 12 rfl rfl
    have q8 := F_q F 1 8 rfl rfl
    have i5' : I 42 ((5 : Nat) : Int) = cnt + k := i5
    have q6' : Q 42 ((6 : Nat) : Int) = some 3 := q6
    have q1 : Q 42 ((1 : Nat) : Int) = some 44 := Lq L rfl
    have q0 : Q 42 ((0 : Nat) : Int) = some 43 := Lq L rfl
    have w2 : I (a + (1 + 1)) (cnt + k) = cnt + ssG n d k := (hj k k0 k1).2.2.2
    have w6 : I (b + (5 + 1)) (lo + ssG n d k) = o := io
    obtain ⟨-, -, v3, v4⟩ := LG_k G k0 k1
    have i33 : I 3 3 = m 82 3 := (c5 3 (by decide) (by decide)).1
    unfold jd_71_s29
    rw [n_jw (z := hi) (by omega) (by omega), n_jw (z := lo + k) (by omega) (by omega), if_neg (by omega), Option.bind_some, F_gr Fo, Option.bind_some, q15, Option.bind_some, F_gr Fo, Option.bind_some, q12, Option.bind_some, F_gr F, Option.bind_some, q8, y_gi L 42 4 rfl rfl, Option.bind_some, i5', Option.bind_some, F_ai F (by omega) (1 + 1) 12 rfl rfl rfl (by omega) (by omega), Option.bind_some, w2, Option.bind_some, show lo + (cnt + ssG n d k) - cnt = lo + ssG n d k by omega, F_ai Fo (by omega) (5 + 1) 12 rfl rfl rfl (by omega) (by omega), Option.bind_some, w6, Option.bind_some, F_ar Fo ho.1 ho.2, Option.bind_some, qsrc, y_gr L 42 4 rfl rfl, Option.bind_some, q1, y_gr L 42 4 rfl rfl, Option.bind_some, q0, Option.bind_some, y_gr L 42 4 rfl rfl, Option.bind_some, q6', Option.bind_some, y_ai L (by omega) 3 8 rfl rfl rfl (by decide) (by decide), Option.bind_some, i33, Option.bind_some, y_ck L 44 1 rfl rfl, Option.bind_some, e1, Option.bind_some, n_jw (z := z) (by omega) (by omega)]
  have em : jd_294_s42 0 cnt st 0 k m = jd_294_b179 0 cnt st 0 k z m1 := by
    unfold jd_294_s42
    rw [m35, n_jw (z := n) (by omega) (by omega), n_jw (z := k) (by omega) (by omega), if_neg (by omega), e2, Option.bind_some]
    dsimp only
    rw [if_pos (show jw 0 = 0 by decide)]
  rw [ec, em]
  by_cases c : z ≤ 2000
  · have M6 : MFq m m6 k st := A6.2.2.2.2.2.1
    have e102 : m6 102 = m 102 := M6.1 102 (by decide) (by decide) (by decide) (by decide) (by decide)
    have e103 : m6 103 = m 103 := M6.1 103 (by decide) (by decide) (by decide) (by decide) (by decide)
    have e112 : m6 112 = m 112 := M6.1 112 (by decide) (by decide) (by decide) (by decide) (by decide)
    have B6 : FBm S R H J m6 a f len := by
      obtain ⟨-, ff, ⟨y1, y2, y3⟩, y4⟩ := B
      refine ⟨F1, ff, ⟨by rw [show J a = I a from (cj 0 (by decide)).2]; exact y1, y2, by rw [M6.2.1 47 (by decide) (by decide) (by decide) (by decide) (by decide)]; exact y3⟩, ?_⟩
      rcases y4 with y4 | ⟨c, y5, y6, y7⟩
      · exact Or.inl y4
      · obtain ⟨-, y, -, hy⟩ := F.2.2.2.1 c y5
        obtain ⟨t1, -, t3⟩ := Ce_fr S1 hy ⟨by omega, by omega, by omega⟩
        refine Or.inr ⟨c, by rw [show R a = Q a from (cj 0 (by decide)).1]; exact y5, by rw [t1.2.2.1, ← hy.2.2.1]; exact y6, ?_⟩
        rw [t3, e112]
        exact y7
    have D6 : MdP S R H J m6 p b' w h k st nb := A6.2.2.1
    obtain ⟨⟨W6, b153, Cb, By6, n53⟩, ⟨nb0, nb1⟩, Rf6, s104⟩ := D6
    have g6 : S.1 + 2 < 1000000 + bzR S R a := by
      have := G1.2.1
      have := nW_le (Q := R)
      generalize bzR S R a = z1
      omega
    obtain ⟨u1, u2, u3, u4⟩ := hj k k0 k1
    obtain ⟨S3, R3, H3, J3, m3, r1, r2, L3, B3, X3, g3, MB3, v0, v1, v2, v3, v4⟩ := picb (x1 := 0) (x3 := cnt) (x4 := st) (x5 := 0) (q := cnt + k) (k := k) (st := st) L1 B6 g6 (by omega) W6 Cb.2.2.2 By6 n53 nb0 nb1 hz c (by omega) (by omega) (by omega) k0 (by omega) (by rw [(cj 1 (by decide)).2, e102, u1]; exact u3) (by rw [(cj 2 (by decide)).2, e103, u4, u2]; omega) s104 (by rw [n_jw (z := cnt) (by omega) (by omega)]; omega)
    have F3 : FilmAt S3 R3 H3 a f := B3.1
    have S3' := BF_Sm F1 X3
    have n43 : (43 : Nat) ≠ a := by omega
    have q43 : R3 43 = R 43 := X3.1 43 W6.1.1 n43
    have hb3 : ∀ b, R3 43 0 = some b → 153 ≤ b ∧ Ce S3 H3 b 1 4000 560 := fun y hy => by
      rw [q43] at hy
      obtain ⟨y1, y2⟩ := MdP_hb D1 y hy
      obtain ⟨t1, t2, t3⟩ := X3.2.2.1 y y2.1
      exact ⟨y1, Nat.lt_of_lt_of_le y2.1 X3.2.2.2.2.2.1, t2.trans y2.2.1, t3.trans y2.2.2.1, t1.trans y2.2.2.2⟩
    have rw3 : ∀ j : Nat, 0 < j → j < 13 → R3 (a + j) = Q (a + j) ∧ J3 (a + j) = I (a + j) := fun j j0 j1 => by
      have cc := F1.2.1 j j1
      rw [X3.1 (a + j) cc.1 (by omega), X3.2.2.2.1 (a + j) cc.1 (by omega) (by rw [cc.2.2.2]; omega)]
      exact cj j j1
    have mg3 : MG m6 m3 := ⟨fun y y1 y2 y3 => MB3.1 y y1 (by omega), fun y hy => MB3.2.1 y (by omega)⟩
    have FF : MkF S R H J m6 a f S3 R3 H3 J3 m3 := ⟨⟨L3, F3⟩, hb3, S3', mg3, BF_Gm q43 X3, by rw [(rw3 1 (by decide) (by decide)).2, (cj 1 (by decide)).2], by rw [(rw3 2 (by decide) (by decide)).2, (cj 2 (by decide)).2], by rw [(rw3 8 (by decide) (by decide)).2, (cj 8 (by decide)).2], fun i hi => MB3.2.2 i (by omega)⟩
    have FA := MkF_t F6 FF
    have MG3 : MG m m3 := FA.2.2.2.1
    have jp : ∀ (y : Nat) (j : Int), 0 ≤ j → j < 12 → Q (a + 9) j = some y → J3 y = I y ∧ (j ≠ cnt + k → J3 (y + 1) = I (y + 1)) ∧ J3 (y + 1) = J (y + 1) := fun y j j0 j1 hy => by
      have P0 := F.2.2.2.2 j j0 j1 y hy
      have P1 := F1.2.2.2.2 j j0 j1 y (by rw [(cj 9 (by decide)).1]; exact hy)
      have ya : y ≠ a := fun e => by
        have := P0.2.1.2.2.2
        have c0 := (F.2.1 0 (by decide)).2.2.2
        rw [e, show a = a + 0 from rfl, c0] at this
        omega
      have yb : y + 1 ≠ a := fun e => by
        have := P0.2.2.1.2.2.2
        have c0 := (F.2.1 0 (by decide)).2.2.2
        rw [e, show a = a + 0 from rfl, c0] at this
        omega
      have t1 := X3.2.2.2.1 y P1.2.1.1 ya (by rw [P1.2.1.2.2.2]; omega)
      have t2 := X3.2.2.2.1 (y + 1) P1.2.2.1.1 yb (by rw [P1.2.2.1.2.2.2]; omega)
      rw [t1, t2]
      by_cases e : j = cnt + k
      · have : y = p := by
          rw [e, qp] at hy
          cases hy
          rfl
        rw [this]
        exact ⟨ip1, fun h => absurd e h, rfl⟩
      · obtain ⟨-, t3, t4⟩ := PicAt_fr S1 P0 (show PFp (200 + 12 * f + (cnt + k)) (200 + 12 * f + j) from ⟨by omega, by omega, by omega⟩)
        exact ⟨t3, fun _ => t4, rfl⟩
    have e109 : m3 109 = m6 109 := MB3.1 109 (by decide) (by decide)
    have C3 : CuB S3 R3 H3 J3 m3 a f w h T := CuB_k C FA (fun j j0 j1 => by
      obtain ⟨y, y1, y2, y3⟩ := c8 j j0 j1
      exact ⟨y, by rw [(rw3 9 (by decide) (by decide)).1]; exact y1, by rw [(jp y j j0 (by omega) y1).1]; exact y2, by rw [(jp y j j0 (by omega) y1).1]; exact y3⟩)
    obtain ⟨J4, hJ4⟩ : ∃ J4, J4 = jms J3 42 5 (cnt + k + 1) := ⟨_, rfl⟩
    have oj : ∀ x : Nat, x ≠ 42 → J4 x = J3 x := fun x hx => by rw [hJ4, jms_o hx]
    have F4 : CuF S3 R3 H3 J3 m3 a f S3 R3 H3 J4 m3 := CuF_I (fun x xs hx => oj x (fun e => by
      rw [e, Lo L3 rfl] at hx
      unfold PD at hx
      omega))
    have pj : ∀ (y : Nat) (j : Int), 0 ≤ j → j < 12 → R3 (a + 9) j = some y → J4 y = J3 y ∧ J4 (y + 1) = J3 (y + 1) := fun y j j0 j1 hy => by
      have := (F3.2.2.2.2 j j0 j1 y hy).1
      exact ⟨oj y (by omega), oj (y + 1) (by omega)⟩
    have k1' : J4 (a + 1) = I (a + 1) := by rw [oj (a + 1) (by omega)]; exact FA.2.2.2.2.2.1
    have k2' : J4 (a + 2) = I (a + 2) := by rw [oj (a + 2) (by omega)]; exact FA.2.2.2.2.2.2.1
    have k8' : J4 (a + 8) = I (a + 8) := by rw [oj (a + 8) (by omega)]; exact FA.2.2.2.2.2.2.2.1
    have C2 : isSd w ∧ isSd h := ⟨C.2.2.1.2.2.2.1, C.2.2.1.2.2.2.2⟩
    refine ⟨S3, R3, H3, J4, m3, CuF_t (CuF_k FA) F4, CuB_fr C3 F4 L3 F3 hb3 C3.2.2.2.1.2.2 (fun j j0 j1 => ?_), Or.inr ⟨len + 5 + z, ?_, ?_, ⟨⟨?_, ?_⟩, G, ⟨g0, n1, gn⟩, fun j j0 j1 => ?_⟩, ?_, ⟨by omega, by omega⟩, fun j j0 j1 => ?_, ?_, by rw [hJ4, jms_e]; omega, ⟨k1', k2', k8'⟩, ⟨MG3.2 91 (by decide), MG3.1 134 (by decide) (by decide) (by decide), MG3.1 121 (by decide) (by decide) (by decide)⟩⟩⟩
    · obtain ⟨y, y1, y2, y3⟩ := C3.2.2.2.2.2 j j0 j1
      exact ⟨y, y1, by rw [(pj y j j0 (by omega) y1).1]; exact y2, by rw [(pj y j j0 (by omega) y1).1]; exact y3⟩
    · have t0 : R 42 ((0 : Nat) : Int) = some 43 := Lq L1 rfl
      have t1 : R 43 ((0 : Nat) : Int) = some b' := W6.2.2.2
      have t5 : J 42 ((5 : Nat) : Int) = cnt + k := u5
      have t6 : J3 42 ((5 : Nat) : Int) = cnt + k := by
        rw [X3.2.2.2.1 42 (by have := L1.1; omega) (by omega) (by rw [Lo L1 rfl]; omega)]
        exact u5
      rw [if_pos c, y_gi L1 42 4 rfl rfl, Option.bind_some, t5, y_gr L1 42 4 rfl rfl, Option.bind_some, t0, Option.bind_some, y_gr L1 43 0 rfl rfl, Option.bind_some, t1, Option.bind_some, F_ck F1, Option.bind_some, r1, Option.bind_some, y_gi L3 42 4 rfl rfl, Option.bind_some, t6, y_pi L3 42 4 rfl rfl, Option.bind_some, hJ4]
      rfl
    · unfold jd_294_b179
      rw [Option.bind_some, n_jw (z := z) (by omega) (by omega), if_pos c, ← hm6]
      exact r2
    · rw [MB3.2.1 35 (by decide), M6.2.1 35 (by decide) (by decide) (by decide) (by decide) (by decide)]
      exact m35
    · rw [MB3.2.1 36 (by decide), M6.2.1 36 (by decide) (by decide) (by decide) (by decide) (by decide)]
      exact m36
    · rw [MB3.1 102 (by decide) (by decide), MB3.1 103 (by decide) (by decide), e102, e103, k1', k2']
      exact hj j j0 j1
    · obtain ⟨-, ff, ⟨y1, y2, y3⟩, y4⟩ := B3
      refine ⟨F3, ff, ⟨by rw [oj a (by omega)]; exact y1, y2, y3⟩, ?_⟩
      rcases y4 with e | ⟨t, t1, t2, t3⟩
      · exact Or.inl e
      · refine Or.inr ⟨t, t1, t2, ?_⟩
        rw [oj t (by have := (F3.2.2.2.1 t t1).1; omega)]
        exact t3
    · by_cases e : j = k
      · rw [e]
        have r9 : R3 (a + 9) (cnt + k) = some p := by rw [(rw3 9 (by decide) (by decide)).1]; exact qp
        refine ⟨p, r9, ?_⟩
        obtain ⟨t1, -, t3⟩ := jp p (cnt + k) (by omega) (by omega) qp
        obtain ⟨t4, t5⟩ := pj p (cnt + k) (by omega) (by omega) r9
        exact RfE_tr Rf6 (PcC_at (F3.2.2.2.2 (cnt + k) (by omega) (by omega) p r9)) (by rw [t4, t1, ip1]) (by rw [t5]; exact t3) (fun i _ _ => by rw [e109]) C2.1 C2.2
      · obtain ⟨y, y1, y2⟩ := Rf j j0 (by omega)
        have r9 : R3 (a + 9) (cnt + j) = some y := by rw [(rw3 9 (by decide) (by decide)).1]; exact y1
        obtain ⟨t1, t2, -⟩ := jp y (cnt + j) (by omega) (by omega) y1
        obtain ⟨t4, t5⟩ := pj y (cnt + j) (by omega) (by omega) r9
        exact ⟨y, r9, RfE_tr y2 (PcC_at (F3.2.2.2.2 (cnt + j) (by omega) (by omega) y r9)) (by rw [t4]; exact t1) (by rw [t5]; exact t2 (by omega)) (fun i i0 i1 => by rw [e109, M6.2.2.2 i (Or.inl (by omega))]) C2.1 C2.2⟩
    · rw [k1', k2', show cnt + (k + 1) = cnt + k + 1 by omega]
      refine HBy_s (st := st) (by omega) l7 W zb.1 c (fun _ => ⟨st0, st1⟩) (fun e => absurd rfl e) (fun i hi => by rw [MB3.2.2 i hi, e112]) ?_ ?_ v2 v3 v4
      · rw [v0, e102, u1, u3]
      · rw [v1, e103, u2, u4, show ssG n d k - 0 + cnt = cnt + ssG n d k by omega]
  · refine ⟨S, R, H, J, m6, CuF_k F6, CuB_k C F6 (fun j j0 j1 => ?_), Or.inl ⟨?_, ?_⟩⟩
    · obtain ⟨y, y1, y2, y3⟩ := c8 j j0 j1
      have ye : J y = I y := by
        by_cases e : j = cnt + k
        · have : y = p := by
            rw [e, qp] at y1
            cases y1
            rfl
          rw [this]
          exact ip1
        · exact (PicAt_fr S1 (F.2.2.2.2 j j0 (by omega) y y1) (show PFp (200 + 12 * f + (cnt + k)) (200 + 12 * f + j) from ⟨by omega, by omega, by omega⟩)).2.1
      exact ⟨y, by rw [(cj 9 (by decide)).1]; exact y1, by rw [ye]; exact y2, by rw [ye]; exact y3⟩
    · rw [if_neg c]
    · unfold jd_294_b179
      rw [Option.bind_some, n_jw (z := z) (by omega) (by omega), if_neg c, n_jw (z := cnt) (by omega) (by omega), if_neg (show ¬ cnt = -1 by omega), ← hm6]
end Anew1
