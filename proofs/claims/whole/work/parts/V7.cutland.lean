/-! cutting: a cut film lands -/
section CutLand
variable {s s' : hS} {Q Q' Q2 : hQ} {hm hm' : hO} {I J I' I2 m M m' m2 : jM} {f w h cod T len rt : Int} {W : Int → Int} {pj : Int → Nat} {a b A : Nat}
theorem FilmC_ofz (F : FilmAt s Q hm a f) (B : LpB s Q hm I m a A w h cod f T len pj) (J : LpI s Q hm I m a w h cod f T pj T Q' I' m') (v : m 83 f = cod ∧ m 84 f = w ∧ m 85 f = h ∧ m 86 f = rt ∧ m 87 f = T ∧ m 88 f = len) (iv : I a 1 = w ∧ I a 2 = h ∧ I a 3 = rt ∧ I a 6 = len) (hrt : 1 ≤ rt ∧ rt ≤ 60) (e2 : ∀ j : Int, 0 ≤ j → j < T → I (a + 2) j = m 103 j ∧ I (a + 6) (m 103 j) = j) (e7 : ∀ k : Int, 0 ≤ k → k < T → (I (a + 7) k = 0 ∨ I (a + 7) k = 1) ∧ (I (a + 7) k = 1 ↔ m 102 k = 0 ∧ ∀ j : Int, k < j → j < T → m 103 k < m 103 j)) (eb : ∀ i : Int, 0 ≤ i → i < len → m 89 (24100 * f + i) = jwb (m 112 i)) (V : PV cod T (m 102) (m 103) (m 104) (m 105) (m 106) len (fun i => m 112 i % 256)) : FilmC s Q' (ims I' (a + 8) (fun _ => 0)) m' a f := by
  have o8 : ∀ (K : jM) (x : Nat), x ≠ a + 8 → ims K (a + 8) (fun _ => 0) x = K x := fun K x hx => ims_o hx
  have t8 := (F.2.1 8 (by decide)).2.1
  have p8 : ∀ j : Int, 0 ≤ j → j < T → pj j ≠ a + 8 ∧ pj j + 1 ≠ a + 8 := fun j j0 j1 => by
    have P := (B.2.2.2.2.2.2.2.1 j j0 j1).2.1
    refine ⟨fun e => ?_, fun e => ?_⟩
    · have := P.2.2.1
      rw [e, t8] at this
      exact absurd this (by decide)
    · have := P.2.2.2.2.1
      rw [e, t8] at this
      exact absurd this (by decide)
  have A8 : A ≠ a + 8 := fun e => by
    have := B.2.2.2.2.2.2.1.2.1.2.1
    rw [e, t8] at this
    exact absurd this (by decide)
  have B' : LpB s Q hm (ims I (a + 8) (fun _ => 0)) m a A w h cod f T len pj := by
    obtain ⟨b0, ⟨b1, b2, b3⟩, b4, b5, b6, b7, ⟨b8, b9, ba, bb⟩, bc, bd⟩ := B
    refine ⟨b0, ⟨by rw [o8 I a (by omega)]; exact b1, by rw [o8 I a (by omega)]; exact b2, b3⟩, b4, b5, b6, fun j j0 j1 => ?_, ⟨b8, b9, ba, fun j j0 j1 => by rw [o8 I A A8]; exact bb j j0 j1⟩, fun j j0 j1 => ?_, bd⟩
    · rw [o8 I (a + 1) (by omega), o8 I (a + 3) (by omega), o8 I (a + 4) (by omega), o8 I (a + 5) (by omega)]
      exact b7 j j0 j1
    · rw [o8 I (pj j) (p8 j j0 j1).1]
      exact bc j j0 j1
  have J' : LpI s Q hm (ims I (a + 8) (fun _ => 0)) m a w h cod f T pj T Q' (ims I' (a + 8) (fun _ => 0)) m' := by
    obtain ⟨j1, j2, j3, j4, j5, j6, j7, j8, j9⟩ := J
    refine ⟨j1, j2, fun x x1 x2 x3 x4 x5 => ?_, j4, j5, j6, j7, j8, fun j j0 jT => ?_⟩
    · by_cases e : x = a + 8
      · rw [e, ims_e, ims_e]
      · rw [o8 I' x e, o8 I x e]
        exact j3 x x1 x2 x3 x4 x5
    · unfold PK
      rw [o8 I' (a + 10) (by omega), o8 I' (a + 11) (by omega), o8 I' (pj j + 1) (p8 j j0 jT).2, o8 I' (a + 12) (by omega)]
      exact j9 j j0 jT
  refine FilmC_of F B' J' v (by rw [o8 I a (by omega)]; exact iv) hrt (fun j j0 j1 => ?_) (fun k k0 k1 => ?_) (fun x _ _ => by rw [ims_e]) eb V
  · rw [o8 I (a + 2) (by omega), o8 I (a + 6) (by omega)]
    exact e2 j j0 j1
  · rw [o8 I (a + 7) (by omega)]
    exact e7 k k0 k1
theorem rd_okz (f0 : 0 ≤ f) (f8 : f < 8) (L : Lay s Q hm) (F : FilmAt s Q hm a f) (h6 : s.1 + 24 ≤ 1000000) (Y : BySm s Q I m a b len) (l1 : len ≤ 24067) (hf : M 76 12 = f) (i8 : I 0 8 = f) (p1 : jd_29 a (hh s Q I) = some (-1, hh s Q J)) (H : Prs I J m M a len) (fr : ∀ c, (c < a ∨ a + 6 < c) → J c = I c) (fr5 : ∀ k : Int, 5 ≤ k → J a k = I a k) (f112 : M 112 = m 112) (f47 : M 76 47 = len) : ∃ (s' : hS) (Q' : hQ) (hm' : hO) (I' m' : jM), jd_197 0 (some a) (hh s Q I) = some (f, hh s' Q' I') ∧ jd_308 M = some (f, m') ∧ Lay s' Q' hm' ∧ FilmAt s' Q' hm' a f ∧ Sm (PF f) s Q hm I s' Q' hm' I' ∧ (∀ y : Int, y ≠ 8 → I' 0 y = I 0 y) ∧ (I' 0 8 = f + 1 ∧ m' 76 12 = f + 1 ∧ FilmC s' Q' (ims I' (a + 8) (fun _ => 0)) m' a f ∧ I' (a + 8) = I (a + 8) ∧ m' 87 f = M 76 35) ∧ (∀ j : Int, j ≠ 12 → j < 49 ∨ 69 < j → m' 76 j = M 76 j) ∧ (∀ x : Nat, x < 83 ∨ 120 < x → x ≠ 76 → m' x = M x) ∧ (∀ g : Int, 0 ≤ g → g < f → MF M m' g) ∧ s'.1 ≤ s.1 + 24 ∧ s'.2.1 ≤ s.2.1 + 10404 := by
  have V := Prs_PV H
  have E := Prs_eq H
  obtain ⟨T, cod, w, h, rt, I1, m1, -, -, ⟨g0, g1, g2, g3, g4⟩, ⟨u1, u2, u3, u4, u5⟩, ⟨sw, sh⟩, ⟨rt1, rt2, rt3⟩, t1, t12, c0, c2⟩ := id H
  rw [u1, u4] at V
  rw [u4] at E
  have a153 := F.1
  have vk := V.2.2.2.2.2.2.2
  obtain ⟨W, k1, k2⟩ := c_36 (I := J) F (by omega) g4 t1 t12 (fun j j0 j1 => by rw [(E j j0 j1).2.1]; have := (vk j j0 j1).2.1; omega) (fun j j0 j1 => by rw [(E j j0 j1).1]; exact (vk j j0 j1).1)
  obtain ⟨s1, Q1, hm1, J1, o, O⟩ := c_28 (I := ims J (a + 7) W) (w := w) (h := h) f0 f8 (Int.le_refl 0) (show (0 : Int) ≤ T by omega) t12 L F h6
  have B := LpB_of f0 f8 F Y l1 H fr f112 u1 u2 u3 u4 O
  obtain ⟨o1, o2, o3, o4, o5, o6, o7, o8⟩ := O
  obtain ⟨Q2, J2, M2, r1, r2, X⟩ := read_l o1 (by omega) o2 B
  have X1 := LpI_sm o1 o2 B X
  -- the film's cells
  have fc : ∀ j : Nat, j < 13 → J1 (a + j) = ims J (a + 7) W (a + j) := fun j hj => (o4 (a + j) (F.2.1 j hj).1 (F.2.1 j hj).2.2.2).1
  have fj : ∀ j : Nat, j < 13 → j ≠ 7 → J1 (a + j) = J (a + j) := fun j hj h7 => by rw [fc j hj, ims_o (by omega)]
  have f7 : J1 (a + 7) = W := by rw [fc 7 (by decide), ims_e]
  have ja : J1 a = J a := fj 0 (by decide) (by decide)
  obtain ⟨y1, -, y5, y6, -⟩ := id Y
  obtain ⟨z1, z2, z3, z4, z5, z6⟩ := mHd_v (m := M) (f := f) (n := len)
  have FC := FilmC_ofz (rt := rt) o2 B X ⟨z1.trans u1, z2.trans u2, z3.trans u3, z4.trans (by rw [f112]; unfold jwb; omega), z5.trans u4, z6⟩ ⟨by rw [ja]; exact g1, by rw [ja]; exact g2, by rw [ja]; exact g3, by rw [ja, fr5 6 (by decide)]; exact y5⟩ ⟨rt1, rt2⟩ (fun j j0 j1 => by
      rw [fj 2 (by decide) (by decide), fj 6 (by decide) (by decide), mHd_o (c := 103) (by omega)]
      exact ⟨(E j j0 j1).2.1, (E j j0 j1).2.2.2.2.2⟩) (fun k k0 k1 => by
      rw [f7, mHd_o (c := 102) (by omega), mHd_o (c := 103) (by omega)]
      obtain ⟨q1, q2⟩ := k2 k k0 k1
      refine ⟨q1, q2.trans ?_⟩
      rw [(E k k0 k1).1, (E k k0 k1).2.1]
      refine ⟨fun h => ⟨h.1, fun j y0 y1 => ?_⟩, fun h => ⟨h.1, fun j y0 y1 => ?_⟩⟩
      · rw [← (E j (by omega) y1).2.1]
        exact h.2 j y0 y1
      · rw [(E j (by omega) y1).2.1]
        exact h.2 j y0 y1) (fun i i0 i1 => by rw [mHd_89 i i0 i1, mHd_o (c := 112) (by omega)]) (by
      rw [mHd_o (c := 102) (by omega), mHd_o (c := 103) (by omega), mHd_o (c := 104) (by omega), mHd_o (c := 105) (by omega), mHd_o (c := 106) (by omega), mHd_o (c := 112) (by omega), f112]
      exact V)
  obtain ⟨x1, x2, x3, x4, x5, x6, x7, x8, x9⟩ := id X
  have F2 : FilmAt s1 Q2 hm1 a f := FilmAt_q (fun x hx => x1 x (by omega) (by omega)) o2
  have i0 : J2 0 = I 0 := by
    have c0 := L.2.1 0 (by decide)
    have e := (Ce_fr o3 c0 ⟨by omega, by omega⟩).2.2
    have e1 : J2 0 = J1 0 := x3 0 (by omega) (by omega) (by omega) (by omega) (fun j j0 j1 e => by omega)
    rw [e1, e, ims_o (by omega), fr 0 (by omega)]
  have e8 : J2 0 ((8 : Nat) : Int) = f := by rw [i0]; exact i8
  have n12 : M2 76 12 = f := by rw [x5 12 (by omega), mHd_o (by omega)]; exact hf
  have Sall : Sm (PF f) s Q hm I s1 Q2 hm1 J2 := Sm_trans (Sm_prs F fr) (Sm_trans (Sm_mono o3 (fun o ho => ⟨ho.2.2.2.1, fun e => ho.2.2.2.2.2 (by omega)⟩)) X1)
  have Z : Sm (PF f) s1 Q2 hm1 J2 s1 Q2 hm1 (jms J2 0 8 (f + 1)) := Sm_jms (by rw [Lo x2 rfl]; unfold PF; omega)
  refine ⟨s1, Q2, hm1, jms J2 0 8 (f + 1), jms M2 76 12 (f + 1), ?_, ?_, x2, F2, Sm_trans Sall Z, fun y hy => by rw [jms_i hy, i0], ⟨jms_e, jms_e, ?_, ?_, ?_⟩, fun j j0 j1 => by rw [jms_i j0, x5 j j1, mHd_o (by omega)], fun x xa xb => by rw [jms_o xb, x4 x xb (by omega), mHd_o (by omega)], fun g g0 gf => ?_, by omega, by omega⟩
  · have w1 : ims J (a + 7) W a ((1 : Nat) : Int) = w := by rw [ims_o (by omega)]; exact g1
    have w2 : ims J (a + 7) W a ((2 : Nat) : Int) = h := by rw [ims_o (by omega)]; exact g2
    have w4 : ims J (a + 7) W a ((4 : Nat) : Int) = T := by rw [ims_o (by omega)]; exact g4
    unfold jd_197
    rw [Option.bind_some, F_ck F, Option.bind_some, p1, Option.bind_some, if_pos (show jw ((-1 : Int), hh s Q J).1 < 0 from (by decide : jw (-1 : Int) < 0)), Option.bind_some, F_ck F, Option.bind_some, k1, Option.bind_some, Option.bind_some, F_gi F, Option.bind_some, w1, Option.bind_some, F_gi F, Option.bind_some, w2, Option.bind_some, F_gi F, Option.bind_some, w4, Option.bind_some, F_ck F, Option.bind_some, o, Option.bind_some, r1, Option.bind_some, y_gi x2 0 11 rfl rfl, Option.bind_some, e8, y_pi x2 0 11 rfl rfl, Option.bind_some]
    rfl
  · rw [k_308h f0 f8 hf f47 y6 (by omega), r2, Option.bind_some, n12]
  · have iz : ∀ x : Nat, x ≠ 0 → ims (jms J2 0 8 (f + 1)) (a + 8) (fun _ => 0) x = ims J2 (a + 8) (fun _ => 0) x := fun x hx => by
      by_cases e : x = a + 8
      · rw [e, ims_e, ims_e]
      · rw [ims_o e, ims_o e, jms_o hx]
    exact FilmC_fr F2 (fun j hj => ⟨rfl, iz _ (by omega)⟩) (fun b hb => ⟨rfl, iz _ (by have := (F2.2.2.2.1 b hb).1; omega)⟩) (fun k k0 k1 p hp => by
      have := (F2.2.2.2.2 k k0 k1 p hp).1
      exact ⟨iz _ (by omega), iz _ (by omega)⟩) (fun x xa xb => jms_o (by omega)) FC
  · obtain ⟨ka, -, -⟩ := LpI_k o2 B X
    rw [jms_o (by omega), ka 8 (by decide), fj 8 (by decide) (by decide), fr (a + 8) (by omega)]
  · rw [jms_o (by decide), x4 87 (by decide) (by omega)]
    exact z5
  · have M3 : ∀ x : Nat, x ≠ 76 → jms M2 76 12 (f + 1) x = M2 x := fun x hx => jms_o hx
    refine ⟨fun x xa xb => ?_, fun i i0 i1 => ?_, fun x xa xb k k0 k1 => ?_, fun k j k0 k1 j0 j1 => ?_, fun k j k0 k1 j0 j1 => ?_⟩
    · rw [M3 x (by omega), x4 x (by omega) (by omega), mHd_f (by omega) x xa xb]
    · rw [M3 89 (by decide), x4 89 (by decide) (by omega), mHd_89f (by omega) gf i0 i1]
    · rw [M3 x (by omega), x6 x xa xb _ (by omega), mHd_o (by omega)]
    · rw [M3 99 (by decide), M3 100 (by decide), (x7 _ (by omega)).1, (x7 _ (by omega)).2, mHd_o (c := 99) (by omega), mHd_o (c := 100) (by omega)]
      exact ⟨rfl, rfl⟩
    · rw [M3 101 (by decide), x8 _ (by omega), mHd_o (c := 101) (by omega)]
theorem FilmC_98 (F : FilmAt s Q hm a f) (e : ∀ c : Nat, c ≠ 98 → m2 c = m' c) (k8 : ∀ k : Int, 0 ≤ k → k < m' 87 f → I (a + 8) (m' 91 (12 * f + k)) % 2 = m2 98 (12 * f + k) % 2) (X : FilmC s Q (ims I (a + 8) (fun _ => 0)) m' a f) : FilmC s Q I m2 a f := by
  have o8 : ∀ x : Nat, x ≠ a + 8 → ims I (a + 8) (fun _ => 0) x = I x := fun x hx => ims_o hx
  obtain ⟨u, v, ⟨b, b1, b2, b3⟩, V, FK⟩ := X
  rw [o8 a (by omega)] at u
  unfold FilmC
  rw [e 83 (by decide), e 84 (by decide), e 85 (by decide), e 86 (by decide), e 87 (by decide), e 88 (by decide), e 89 (by decide), e 90 (by decide), e 91 (by decide), e 92 (by decide), e 93 (by decide), e 94 (by decide)]
  refine ⟨u, v, ⟨b, b1, b2, fun i i0 i1 => by rw [← o8 b (b_nf F b1 8 (by decide))]; exact b3 i i0 i1⟩, V, fun k k0 k1 => ?_⟩
  have n12 : m' 87 f ≤ 12 := V.2.1
  obtain ⟨x1, x6, x7, -, x9, x10, x11, x12, ⟨p, p1, p2⟩, x14, x15⟩ := FK k k0 k1
  have pa := F.2.2.2.2 k k0 (by omega) p p1
  have np : ∀ q : Nat, q = p ∨ q = p + 1 → q ≠ a + 8 := fun q hq e => by
    have h1 := pa.2.1.2.2.2
    have h2 := pa.2.2.1.2.2.2
    have h3 := (F.2.1 8 (by decide)).2.2.2
    rcases hq with rfl | rfl
    · rw [e, h3] at h1
      have := pa.2.1.2.1
      rw [e, (F.2.1 8 (by decide)).2.1] at this
      exact absurd this (by decide)
    · have := pa.2.2.1.2.1
      rw [e, (F.2.1 8 (by decide)).2.1] at this
      exact absurd this (by decide)
  rw [o8 (a + 1) (by omega), o8 (a + 2) (by omega), o8 (a + 3) (by omega), o8 (a + 4) (by omega), o8 (a + 5) (by omega)] at x1
  rw [o8 (a + 6) (by omega)] at x6
  rw [o8 (a + 7) (by omega)] at x7
  rw [o8 (a + 10) (by omega)] at x9
  rw [o8 (a + 11) (by omega)] at x10
  rw [o8 (a + 12) (by omega)] at x15
  unfold FilmK
  rw [e 90 (by decide), e 91 (by decide), e 92 (by decide), e 93 (by decide), e 94 (by decide), e 95 (by decide), e 96 (by decide), e 97 (by decide), e 99 (by decide), e 100 (by decide), e 101 (by decide), e 83 (by decide), e 84 (by decide), e 85 (by decide), e 87 (by decide)]
  exact ⟨x1, x6, x7, k8 k k0 k1, x9, x10, x11, x12, ⟨p, p1, Pix_fr p2 (o8 p (np p (Or.inl rfl))).symm (o8 (p + 1) (np (p + 1) (Or.inr rfl))).symm⟩, x14, x15⟩
/-- which pictures were kept, told to the film -/
def m98 (m : jM) (f t : Int) : jM := ims m 98 (fun x => if 12 * f ≤ x ∧ x < 12 * f + t then m 134 (m 91 x) % 2 else m 98 x)
theorem m98_o {y : Nat} (hy : y ≠ 98) : m98 m f T y = m y := ims_o hy
theorem k_330k (f0 : 0 ≤ f) (f8 : f < 8) (T0 : 0 ≤ T) (T2 : T ≤ 12) (hp : ∀ k : Int, 0 ≤ k → k < T → 0 ≤ m 91 (12 * f + k) ∧ m 91 (12 * f + k) < 12) : jd_330_l282 T f 0 m = some (m98 m f T) := by
  have e0 : m98 m f 0 = m := by
    funext y i
    by_cases e : y = 98
    · rw [e]
      unfold m98
      rw [ims_e, if_neg (by omega)]
    · rw [m98_o e]
  unfold jd_330_l282
  have := w_for (f := fun u : (Int × jM) => jd_330_s282 T f u.1 u.2) (fun k => ((k : Int), m98 m f (k : Int))) T.toNat (x := m98 m f T) (fun k hk => by
    dsimp only
    have hk' := hp (k : Int) (by omega) (by omega)
    unfold jd_330_s282
    rw [n_jw (z := T) (by omega) (by omega), n_jw (z := (k : Int)) (by omega) (by omega), if_neg (by omega), y_ma 91 96 rfl rfl (by omega) (by omega), Option.bind_some, m98_o (show (91 : Nat) ≠ 98 by decide), y_mz 134 12 rfl rfl hk'.1 (by omega), Option.bind_some, m98_o (show (134 : Nat) ≠ 98 by decide), y_mw 98 96 rfl rfl (by omega) (by omega), Option.bind_some, show ((k + 1 : Nat) : Int) = (k : Int) + 1 by omega]
    have es : jms (m98 m f (k : Int)) 98 (12 * f + (k : Int)) (m 134 (m 91 (12 * f + (k : Int))) % 2) = m98 m f ((k : Int) + 1) := by
      funext y i
      by_cases e : y = 98
      · rw [e]
        by_cases d : i = 12 * f + (k : Int)
        · rw [d, jms_e]
          unfold m98
          rw [ims_e, if_pos (by omega)]
        · rw [jms_i d]
          unfold m98
          rw [ims_e, ims_e]
          by_cases d2 : 12 * f ≤ i ∧ i < 12 * f + (k : Int)
          · rw [if_pos d2, if_pos (by omega)]
          · rw [if_neg d2, if_neg (by omega)]
      · rw [jms_o e, m98_o e, m98_o e]
    rw [es]) (by
    dsimp only
    rw [show ((T.toNat : Nat) : Int) = T by omega]
    unfold jd_330_s282
    rw [if_pos (Int.le_refl _)]) (n_fu (by omega))
  rw [show ((0 : Nat) : Int) = 0 from rfl, e0] at this
  exact this
theorem cut_land {s1 s4 : hS} {Q1 Q4 : hQ} {hm1 hm4 : hO} {I1 I4 mP : jM} (R1 : RelH s1 Q1 hm1 I1 m) (hf : m 76 12 = f) (f0 : 0 ≤ f) (f8 : f < 8) (ha : Q1 5 f = some a) (S : Sm (PL f) s1 Q1 hm1 I1 s4 Q4 hm4 I4) (L4 : Lay s4 Q4 hm4) (B4 : FBm s4 Q4 hm4 I4 mP a f len) (hb4 : ∀ b, Q4 43 0 = some b → 153 ≤ b ∧ Ce s4 hm4 b 1 4000 560) (l7 : 7 ≤ len) (l1 : len ≤ 24067) (T0 : 0 ≤ T) (T2 : T ≤ 12) (kx : ∀ x : Int, 0 ≤ x → x < T → I4 (a + 8) x % 2 = mP 134 x % 2) (i0 : I4 0 = I1 0) (q0 : mP 76 0 = 0) (qj : ∀ j : Int, j ≠ 0 → j ≠ 91 → j < 32 ∨ 84 ≤ j → mP 76 j = m 76 j) (qx : ∀ x : Nat, x ≠ 76 → ¬ (102 ≤ x ∧ x ≤ 130) → x ≠ 134 → mP x = m x) (ok : ∃ M, jd_301 mP = some (-1, M) ∧ M 76 35 = T) (h6 : s4.1 + 24 ≤ 1000000) : ∃ (s' : hS) (Q' : hQ) (hm' : hO) (I' m' : jM), jd_197 0 (some a) (hh s4 Q4 I4) = some (f, hh s' Q' I') ∧ ((jd_301 mP).bind fun q73 => (if (jw q73.1) = (-1) then ((jd_308 q73.2).bind fun q76 => ((jd_330_l282 T q76.1 0 q76.2).bind fun x85 => some (q76.1, x85))) else some ((-1), q73.2))) = some (f, m') ∧ m' 76 0 = 0 ∧ RelH s' Q' hm' I' m' ∧ Sm (PF f) s4 Q4 hm4 I4 s' Q' hm' I' ∧ s'.1 ≤ s4.1 + 24 ∧ s'.2.1 ≤ s4.2.1 + 10404 := by
  obtain ⟨F4, -, ⟨y6, y0, y47⟩, yb⟩ := B4
  obtain ⟨b, b5, b6, b7⟩ : ∃ b, Q4 a 5 = some b ∧ len ≤ ((s4.2.2.2 b : Nat) : Int) ∧ ∀ i : Int, 0 ≤ i → i < len → I4 b i % 256 = mP 112 i % 256 := by
    rcases yb with e | e
    · omega
    · exact e
  obtain ⟨b153, k, hk, cb⟩ := F4.2.2.2.1 b b5
  have Y : BySm s4 Q4 I4 mP a b len := ⟨b5, ⟨cb.1, cb.2.1, by rw [cb.2.2.1]; omega⟩, y6, y0, b6, by omega, y47, b7⟩
  obtain ⟨r, J, M, e1, e2, fr, fr5, mc, m76, br⟩ := parse F4 (by omega) Y (by omega) (fun j hj => b_nf F4 Y.1 j hj)
  have i8 : I1 0 8 = f := R1.2.2.2.2.2.1.1.trans hf
  obtain ⟨M0, ok, ok35⟩ := ok
  have er : r = -1 ∧ M = M0 := by
    rw [e2] at ok
    have := Option.some.inj ok
    exact ⟨congrArg Prod.fst this, congrArg Prod.snd this⟩
  obtain ⟨er, eM⟩ := er
  rcases br with ⟨r0, r1⟩ | ⟨-, H⟩
  · omega
  · rw [er] at e1 e2
    have M35 : M 76 35 = T := by rw [eM]; exact ok35
    have M112 : M 112 = mP 112 := mc 112 (by decide) (by decide) (by decide) (by decide) (by decide) (by decide)
    have M12 : M 76 12 = f := by rw [m76 12 (by omega), qj 12 (by decide) (by decide) (by decide), hf]
    have M47 : M 76 47 = len := by rw [m76 47 (by omega)]; exact y47
    obtain ⟨s', Q', hm', I', m', d1, d2, d3, d4, d5, d6, ⟨d71, d72, d73, d74, d75⟩, d8, d9, da, db, dc⟩ := rd_okz f0 f8 L4 F4 h6 Y l1 M12 (by rw [i0, i8]) e1 H fr fr5 M112 M47
    rw [M35] at d75
    have pb : ∀ k : Int, 0 ≤ k → k < T → 0 ≤ m' 91 (12 * f + k) ∧ m' 91 (12 * f + k) < T := fun k k0 k1 => by
      have := PV_bd d73.2.2.2.1 (j := k) k0 (by rw [d75]; exact k1)
      rw [d75] at this
      exact this
    have k282 := k_330k (m := m') f0 f8 T0 T2 (fun k k0 k1 => ⟨(pb k k0 k1).1, by have := (pb k k0 k1).2; omega⟩)
    obtain ⟨mK, hmK⟩ : ∃ mK, mK = m98 m' f T := ⟨_, rfl⟩
    rw [← hmK] at k282
    have oK : ∀ y : Nat, y ≠ 98 → mK y = m' y := fun y hy => by rw [hmK, m98_o hy]
    have K98 : ∀ x : Int, mK 98 x = if 12 * f ≤ x ∧ x < 12 * f + T then m' 134 (m' 91 x) % 2 else m' 98 x := fun x => by
      rw [hmK]
      unfold m98
      rw [ims_e]
    have w134 : m' 134 = mP 134 := by rw [d9 134 (by omega) (by decide), mc 134 (by decide) (by decide) (by decide) (by decide) (by decide) (by decide)]
    have N : ∀ j : Int, j < 32 ∨ 84 ≤ j → j ≠ 12 → j ≠ 0 → j ≠ 91 → mK 76 j = m 76 j := fun j ja j12 j0 j91 => by rw [oK 76 (by decide), d8 j j12 (by omega), m76 j (by omega), qj j j0 j91 ja]
    have hb5 : ∀ b, Q' 43 0 = some b → 153 ≤ b ∧ Ce s' hm' b 1 4000 560 := fun y hy => by
      rw [(Lay_fr (a := 43) L4 d5 (by decide) (by unfold PF; omega)).1] at hy
      obtain ⟨y1, y2⟩ := hb4 y hy
      exact ⟨y1, (Ce_fr d5 y2 (by unfold PF; omega)).1⟩
    have FCK : FilmC s' Q' I' mK a f := FilmC_98 d4 oK (fun k k0 k1 => by
      rw [d75] at k1
      have := pb k k0 k1
      rw [K98, if_pos (by omega), w134, d74, kx _ this.1 this.2]
      omega) d73
    refine ⟨s', Q', hm', I', mK, d1, ?_, ?_, ?_, d5, db, dc⟩
    · rw [e2, Option.bind_some, if_pos (show jw ((-1 : Int), M).1 = -1 from (by decide : jw (-1 : Int) = -1)), d2, Option.bind_some, k282, Option.bind_some]
    · rw [oK 76 (by decide), d8 0 (by decide) (by omega), m76 0 (by omega)]
      exact q0
    · have G : ∀ x : Nat, x ≠ 76 → ¬ (102 ≤ x ∧ x ≤ 130) → x ≠ 134 → M x = m x := fun x xa xb xc => by rw [mc x (by omega) (by omega) (by omega) (by omega) (by omega) (by omega), qx x xa xb xc]
      refine RelH_mk R1 hf f8 (Sm_trans S (Sm_mono d5 (fun o ho => by unfold PL at ho; unfold PF; omega))) d3 ha d4 hb5 (fun y y8 => by rw [d6 y y8, i0]) ⟨N 1 (by omega) (by decide) (by decide) (by decide), N 5 (by omega) (by decide) (by decide) (by decide), N 7 (by omega) (by decide) (by decide) (by decide), N 8 (by omega) (by decide) (by decide) (by decide), N 9 (by omega) (by decide) (by decide) (by decide), N 86 (by omega) (by decide) (by decide) (by decide), N 92 (by omega) (by decide) (by decide) (by decide)⟩ (fun x hx => by rw [oK x (by omega), d9 x (by omega) (by omega), G x (by omega) (by omega) (by omega)]) (fun g g0 gf => ?_) (Or.inr ⟨d71, by rw [oK 76 (by decide)]; exact d72, FCK⟩)
      obtain ⟨z1, z2, z3, z4, z5⟩ := da g g0 gf
      refine ⟨fun x xa xb => by rw [oK x (by omega), z1 x xa xb, G x (by omega) (by omega) (by omega)], fun i u1 u2 => by rw [oK 89 (by decide), z2 i u1 u2, G 89 (by decide) (by decide) (by decide)], fun x xa xb k u1 u2 => ?_, fun k j u1 u2 u3 u4 => by rw [oK 99 (by decide), oK 100 (by decide), (z4 k j u1 u2 u3 u4).1, (z4 k j u1 u2 u3 u4).2, G 99 (by decide) (by decide) (by decide), G 100 (by decide) (by decide) (by decide)]; exact ⟨rfl, rfl⟩, fun k j u1 u2 u3 u4 => by rw [oK 101 (by decide), z5 k j u1 u2 u3 u4, G 101 (by decide) (by decide) (by decide)]⟩
      by_cases c98 : x = 98
      · rw [c98, K98, if_neg (by omega), z3 98 (by decide) (by decide) k u1 u2, G 98 (by decide) (by decide) (by decide)]
      · rw [oK x c98, z3 x xa xb k u1 u2, G x (by omega) (by omega) (by omega)]
end CutLand
