/-! cutting: a group made anew, both sides -/
section AnewG
variable {s s0 : hS} {Q Q0 : hQ} {hm : hO} {I m : jM} {a b : Nat} {f fo w h T len cnt n d k st lo hi sx : Int}
theorem src_of (Fo : FilmAt s Q hm b fo) (Co : FilmC s Q I m b fo) (fo0 : 0 ≤ fo) (fof : fo < f) (e84 : m 84 fo = w) (e85 : m 85 fo = h) (l0 : 0 ≤ lo) (ln : lo + n ≤ m 87 fo) (e : ∀ i x : Int, 0 ≤ i → i < n → 0 ≤ x → x < 864 → m 121 (864 * i + x) = m 99 (864 * (12 * fo + I (b + 6) (lo + i)) + x)) : SrD s Q hm I m b f w h lo n := fun i i0 i1 => by
  obtain ⟨k, k0, k1, kp, ko, -⟩ := film_k (p := lo + i) Co (by omega) (by omega)
  have n12 : m 87 fo ≤ 12 := Co.2.2.2.1.2.1
  obtain ⟨src, hs, X⟩ := (Co.2.2.2.2 k k0 k1).2.2.2.2.2.2.2.2.1
  rw [e84, e85] at X
  refine ⟨k, 200 + 12 * fo + k, src, ko, ⟨k0, by omega⟩, hs, Fo.2.2.2.2 k k0 (by omega) src hs, ⟨by omega, by omega⟩, Pix_c (fun x x0 x1 => ?_) X⟩
  rw [e i x i0 i1 x0 x1, ko]
/-- k pictures of the group are made anew -/
def AnI (s : hS) (Q : hQ) (hm : hO) (I m I1 m3 : jM) (a : Nat) (f w h T cnt n d k : Int) (S : hS) (R : hQ) (H : hO) (J m' : jM) : Prop := CuB S R H J m' a f w h T ∧ CuF s Q hm I m a f S R H J m' ∧ GrD J m' a cnt n d T ∧ (∃ len', FBm S R H J m' a f len' ∧ (7 ≤ len' ∧ len' ≤ 7 + 2005 * (cnt + k)) ∧ HBy (m' 112) (J (a + 1)) (J (a + 2)) 0 (cnt + k) len') ∧ (∀ j : Int, 0 ≤ j → j < k → ∃ b, R (a + 9) (cnt + j) = some b ∧ RfE S R J m' b w h j) ∧ J 42 5 = cnt + k ∧ (J (a + 1) = I1 (a + 1) ∧ J (a + 2) = I1 (a + 2) ∧ J (a + 8) = I (a + 8)) ∧ (m' 76 91 = cnt ∧ m' 134 = m3 134 ∧ m' 121 = m3 121)
theorem anewl {I1 m3 : jM} (h0 : s0.1 + 11 < 1000000) (G0 : Gm a s0 Q0 s Q) (fo0 : 0 ≤ fo) (fof : fo < f) (f8 : f < 8) (Fo : FilmAt s Q hm b fo) (Co : FilmC s Q I m b fo) (e84 : m 84 fo = w) (e85 : m 85 fo = h) (l0 : 0 ≤ lo) (lh : lo + n = hi + 1) (h1 : hi < m 87 fo) (n1 : 1 ≤ n) (st0 : 1 ≤ st) (st1 : st ≤ 31) (kz : ∀ j : Int, 0 ≤ j → j < cnt → okI (I1 (a + 1) j)) (e : ∀ i x : Int, 0 ≤ i → i < n → 0 ≤ x → x < 864 → m3 121 (864 * i + x) = m 99 (864 * (12 * fo + I (b + 6) (lo + i)) + x)) (X0 : AnI s Q hm I m I1 m3 a f w h T cnt n d 0 s Q hm I1 m3) : ∃ (S : hS) (R : hQ) (H : hO) (J m' : jM), CuF s Q hm I m a f S R H J m' ∧ CuB S R H J m' a f w h T ∧ ((jd_71_l29 42 (some a) (some b) lo hi st cnt lo (hh s Q I1) = some (.inl (hh S R J)) ∧ jd_294_l42 0 cnt st 0 0 m3 = some (.inr (.inl m'))) ∨ (jd_71_l29 42 (some a) (some b) lo hi st cnt lo (hh s Q I1) = some (.inr (hh S R J)) ∧ jd_294_l42 0 cnt st 0 0 m3 = some (.inr (.inr m')) ∧ AnI s Q hm I m I1 m3 a f w h T cnt n d n S R H J m')) := by
  have n12 : m 87 fo ≤ 12 := Co.2.2.2.1.2.1
  have step : ∀ (t : Nat) (u : Int × jH) (v : Int × jM), t ≤ n.toNat → (∃ (S : hS) (R : hQ) (H : hO) (J m' : jM), u = (lo + (t : Int), hh S R J) ∧ v = ((t : Int), m') ∧ AnI s Q hm I m I1 m3 a f w h T cnt n d (t : Int) S R H J m') → (∃ u' v', (fun u : (Int × jH) => jd_71_s29 42 (some a) (some b) lo hi st cnt u.1 u.2) u = some (.inl u') ∧ (fun u : (Int × jM) => jd_294_s42 0 cnt st 0 u.1 u.2) v = some (.inl v') ∧ t < n.toNat ∧ (∃ (S : hS) (R : hQ) (H : hO) (J m' : jM), u' = (lo + ((t + 1 : Nat) : Int), hh S R J) ∧ v' = (((t + 1 : Nat) : Int), m') ∧ AnI s Q hm I m I1 m3 a f w h T cnt n d ((t + 1 : Nat) : Int) S R H J m')) ∨ (∃ x y, (fun u : (Int × jH) => jd_71_s29 42 (some a) (some b) lo hi st cnt u.1 u.2) u = some (.inr x) ∧ (fun u : (Int × jM) => jd_294_s42 0 cnt st 0 u.1 u.2) v = some (.inr y) ∧ ∃ (S : hS) (R : hQ) (H : hO) (J m' : jM), CuF s Q hm I m a f S R H J m' ∧ CuB S R H J m' a f w h T ∧ ((x = .inl (hh S R J) ∧ y = .inr (.inl m')) ∨ (x = .inr (hh S R J) ∧ y = .inr (.inr m') ∧ AnI s Q hm I m I1 m3 a f w h T cnt n d n S R H J m'))) := by
    intro t u v ht Y
    obtain ⟨S, R, H, J, m', rfl, rfl, X⟩ := Y
    dsimp only
    by_cases ct : t = n.toNat
    · have tn : (t : Int) = n := by omega
      have X' := X
      obtain ⟨xC, xF, xG, -⟩ := X'
      refine Or.inr ⟨.inr (hh S R J), .inr (.inr m'), ?_, ?_, S, R, H, J, m', xF, xC, Or.inr ⟨rfl, rfl, by rw [tn] at X; exact X⟩⟩
      · unfold jd_71_s29
        rw [tn, n_jw (z := hi) (by omega) (by omega), n_jw (z := lo + n) (by omega) (by omega), if_pos (by omega)]
      · unfold jd_294_s42
        rw [tn, xG.1.1, if_pos (Int.le_refl _)]
    · have tn : (t : Int) < n := by omega
      obtain ⟨xC, xF, xG, ⟨len', xB, ⟨xl1, xl2⟩, xW⟩, xR, x5, ⟨x1, x2, x8⟩, ⟨x91, x134, x121⟩⟩ := X
      obtain ⟨Fo', Co'⟩ := old_now fo0 fof f8 Fo Co xF
      have M := xF.2.1.1
      have e84' : m' 84 fo = w := by rw [M 84 (by decide) (by decide) (by decide) (by decide)]; exact e84
      have e85' : m' 85 fo = h := by rw [M 85 (by decide) (by decide) (by decide) (by decide)]; exact e85
      have e87 : m' 87 = m 87 := M 87 (by decide) (by decide) (by decide) (by decide)
      have e99 : m' 99 = m 99 := M 99 (by decide) (by decide) (by decide) (by decide)
      have b6 : J (b + 6) = I (b + 6) := (Ce_fr xF.1 (Fo.2.1 6 (by decide)) (by unfold PD; omega)).2.2
      have So := src_of (n := n) (lo := lo) Fo' Co' fo0 fof e84' e85' l0 (by rw [e87]; omega) (fun i x i0 i1 y0 y1 => by rw [x121, e99, b6]; exact e i x i0 i1 y0 y1)
      have g3 := (Gm_3 (Gm_t G0 xF.2.2.1)).1
      obtain ⟨S2, R2, H2, J2, m2, d1, d2, alt⟩ := anew1 (k := (t : Int)) (st := st) (lo := lo) (hi := hi) xC xG xB xl1 xl2 xR xW x5 (fun j j0 j1 => by rw [x1]; exact kz j j0 j1) Fo' So (by omega) tn (by omega) st0 st1 l0 lh (by omega)
      rcases alt with ⟨a1, a2⟩ | ⟨len2, a1, a2, a3, a4, a5, a6, a7, a8, ⟨a9, a10, a11⟩, ⟨a12, a13, a14⟩⟩
      · exact Or.inr ⟨_, _, a1, a2, S2, R2, H2, J2, m2, CuF_t xF d1, d2, Or.inl ⟨rfl, rfl⟩⟩
      · refine Or.inl ⟨_, _, a1, a2, by omega, S2, R2, H2, J2, m2, by rw [show lo + (t : Int) + 1 = lo + ((t + 1 : Nat) : Int) by omega], by rw [show (t : Int) + 1 = ((t + 1 : Nat) : Int) by omega], d2, CuF_t xF d1, a3, ?_⟩
        rw [show ((t + 1 : Nat) : Int) = (t : Int) + 1 by omega]
        exact ⟨⟨len2, a4, a5, a7⟩, a6, a8, ⟨a9.trans x1, a10.trans x2, a11.trans x8⟩, ⟨a12.trans x91, a13.trans x134, a14.trans x121⟩⟩
  obtain ⟨x, y, e1, e2, S, R, H, J, m', r1, r2, alt⟩ := w_lp2 (f := fun u : (Int × jH) => jd_71_s29 42 (some a) (some b) lo hi st cnt u.1 u.2) (g := fun u : (Int × jM) => jd_294_s42 0 cnt st 0 u.1 u.2) (Q := fun x y => ∃ (S : hS) (R : hQ) (H : hO) (J m' : jM), CuF s Q hm I m a f S R H J m' ∧ CuB S R H J m' a f w h T ∧ ((x = .inl (hh S R J) ∧ y = .inr (.inl m')) ∨ (x = .inr (hh S R J) ∧ y = .inr (.inr m') ∧ AnI s Q hm I m I1 m3 a f w h T cnt n d n S R H J m'))) (fun t u v => ∃ (S : hS) (R : hQ) (H : hO) (J m' : jM), u = (lo + (t : Int), hh S R J) ∧ v = ((t : Int), m') ∧ AnI s Q hm I m I1 m3 a f w h T cnt n d (t : Int) S R H J m') n.toNat step (n_fu (by omega)) (n_fu (by omega)) (s0 := (lo, hh s Q I1)) (t0 := (0, m3)) ⟨s, Q, hm, I1, m3, by rw [show lo + ((0 : Nat) : Int) = lo by omega], rfl, X0⟩
  refine ⟨S, R, H, J, m', r1, r2, ?_⟩
  unfold jd_71_l29 jd_294_l42
  rw [e1, e2]
  rcases alt with ⟨z1, z2⟩ | ⟨z1, z2, z3⟩
  · exact Or.inl ⟨by rw [z1], by rw [z2]⟩
  · exact Or.inr ⟨by rw [z1], by rw [z2], z3⟩
theorem anewg (Z : CuI s Q hm I m a f w h T cnt len) (h0 : s0.1 + 11 < 1000000) (G0 : Gm a s0 Q0 s Q) (fo0 : 0 ≤ fo) (fof : fo < f) (Fo : FilmAt s Q hm b fo) (Co : FilmC s Q I m b fo) (cod : m 83 fo = 0) (e84 : m 84 fo = w) (e85 : m 85 fo = h) (l0 : 0 ≤ lo) (lh : lo ≤ hi) (h1 : hi < m 87 fo) (sx0 : 0 ≤ sx) (sx1 : sx < m 87 fo) (cT : cnt + (hi - lo + 1) ≤ T) : ∃ (S : hS) (R : hQ) (H : hO) (J m' : jM), CuF s Q hm I m a f S R H J m' ∧ CuB S R H J m' a f w h T ∧ ((jd_71 42 (some a) (some b) lo hi (I (b + 3) sx) (hh s Q I) = some (0, hh S R J) ∧ jd_329 fo sx lo hi m = some (0, m')) ∨ ∃ len' : Int, jd_71 42 (some a) (some b) lo hi (I (b + 3) sx) (hh s Q I) = some (1, hh S R J) ∧ jd_329 fo sx lo hi m = some (1, m') ∧ CuI S R H J m' a f w h T (cnt + (hi - lo + 1)) len') := by
  obtain ⟨zC, zB, zl, zW, ⟨c0, c1, i5, m91⟩, zO, zk, z8⟩ := id Z
  obtain ⟨⟨L, F, f0, f8⟩, hb, ⟨m32, -, -, -, -⟩, ⟨T1, T2, q6⟩, c5, c8⟩ := id zC
  have n12 : m 87 fo ≤ 12 := Co.2.2.2.1.2.1
  have g3 := (Gm_3 G0).1
  have a153 := F.1
  obtain ⟨n, hn⟩ : ∃ n, n = hi - lo + 1 := ⟨_, rfl⟩
  obtain ⟨d, hd⟩ : ∃ d, d = m 82 2 := ⟨_, rfl⟩
  have so2 : 0 ≤ d ∧ d ≤ 2 := by
    rw [hd]
    rcases (c5 2 (by decide) (by decide)).2 with ⟨e, -⟩ | e
    · exact absurd e (by decide)
    · exact e
  have i32 : I 3 2 = d := by rw [hd]; exact (c5 2 (by decide) (by decide)).1
  obtain ⟨st, hst⟩ : ∃ st, st = I (b + 3) sx := ⟨_, rfl⟩
  have w92 : m 92 (12 * fo + sx) = st := by rw [hst]; exact ((Co.2.2.2.2 sx sx0 sx1).1.2.2.1).symm
  have stb : 1 ≤ st ∧ st ≤ 31 := by
    rw [← w92]
    exact (Co.2.2.2.1.2.2.2.2.2.2.2 sx sx0 sx1).2.2.1 cod
  rw [← hn] at cT
  rw [← hst, ← hn]
  -- the model ahead of the group
  obtain ⟨m1, k1, o1, r121⟩ := k_329c (x2 := sx) Co fo0 (by omega) l0 lh h1
  have k2 := k_71 (m := m1) (x1 := fo) (x2 := sx) (lo := lo) (hi := hi) (c := cnt) (by rw [o1 76 (by decide)]; exact m91) c0 (by omega) (by omega)
  rw [← hn] at k2
  obtain ⟨m2, hm2⟩ : ∃ m2, m2 = m134 m1 cnt n 0 := ⟨_, rfl⟩
  rw [← hm2] at k2
  have o2 : ∀ c : Nat, c ≠ 121 → c ≠ 134 → m2 c = m c := fun c h1 h2 => by rw [hm2, m134_o h2, o1 c h1]
  have m276 : m2 76 = m 76 := o2 76 (by decide) (by decide)
  obtain ⟨M, m3, e293, e13, ⟨t35, t36, t83⟩, LGn, hj, o3, z3⟩ := lay_m (m := m2) (g := 0) (n := n) (d := d) (x3 := cnt) (x4 := st) (x5 := 0) F (by omega) (by omega) (by omega) so2.1 (by omega) (Or.inl ⟨by rw [m276, m32]; decide, by rw [o2 82 (by decide) (by decide)]; exact hd.symm⟩)
  obtain ⟨I1, e64, -, hc, oc, ox⟩ := lay_c (I := I) (p := cnt) (g := cnt) (n := n) (d := d) F c0 (by omega) (by omega) so2.1 (by omega)
  have X1 : CuF s Q hm I m a f s Q hm I1 m3 := by
    refine CuF_t (CuF_I (I' := I1) (fun x xs hx => ?_)) (CuF_m ⟨fun c c1 c2 c3 c4 => ?_, fun z y1 y2 => ?_⟩ (fun i _ => ?_))
    · have nf : ∀ j : Nat, j < 13 → x ≠ a + j := fun j hj e => by
        rw [e, (F.2.1 j hj).2.2.2] at hx
        unfold PD at hx
        omega
      exact oc x (nf 1 (by decide)) (nf 2 (by decide))
    · rw [o3 c c1 (by omega) (by omega), o2 c (by omega) c4]
    · rw [z3 z (by omega) (by omega) (by omega), m276]
    · rw [o3 112 (by decide) (by decide) (by decide), o2 112 (by decide) (by decide)]
  have pn : ∀ (p : Nat) (j : Int), 0 ≤ j → j < 12 → Q (a + 9) j = some p → I1 p = I p := fun p j j0 j1 hp => by
    have pa := F.2.2.2.2 j j0 j1 p hp
    have np : ∀ i : Nat, i < 13 → p ≠ a + i := fun i hi e => by
      have := pa.2.1.2.2.2
      rw [e, (F.2.1 i hi).2.2.2] at this
      omega
    exact oc p (np 1 (by decide)) (np 2 (by decide))
  have C1 : CuB s Q hm I1 m3 a f w h T := CuB_fr zC X1 L F hb q6 (fun j j0 j1 => by
    obtain ⟨p, p1, p2, p3⟩ := c8 j j0 j1
    exact ⟨p, p1, by rw [pn p j j0 (by omega) p1]; exact p2, by rw [pn p j j0 (by omega) p1]; exact p3⟩)
  have m3112 : m3 112 = m 112 := by rw [o3 112 (by decide) (by decide) (by decide), o2 112 (by decide) (by decide)]
  have B1 : FBm s Q hm I1 m3 a f len := by
    obtain ⟨-, ff, ⟨z1, z2, z3'⟩, z4⟩ := zB
    refine ⟨F, ff, ⟨by rw [oc a (by omega) (by omega)]; exact z1, z2, by rw [z3 47 (by decide) (by decide) (by decide), m276]; exact z3'⟩, ?_⟩
    rcases z4 with e | ⟨t, t1, t2, t3⟩
    · exact Or.inl e
    · refine Or.inr ⟨t, t1, t2, ?_⟩
      rw [oc t (b_nf F t1 1 (by decide)) (b_nf F t1 2 (by decide)), m3112]
      exact t3
  have kp : ∀ q : Int, q < cnt → I1 (a + 1) q = I (a + 1) q ∧ I1 (a + 2) q = I (a + 2) q := fun q hq => ox q (Or.inl hq)
  have X0 : AnI s Q hm I m I1 m3 a f w h T cnt n d 0 s Q hm I1 m3 := by
    refine ⟨C1, X1, ⟨⟨t35, t36⟩, LGn, ⟨c0, by omega, by omega⟩, fun j j0 j1 => ?_⟩, ⟨len, B1, ⟨zl.1, by rw [Int.add_zero]; exact zl.2⟩, by rw [Int.add_zero, m3112]; exact HBy_kp zW (fun _ _ => rfl) (fun q q0 q1 => kp q q1)⟩, fun j j0 j1 => absurd j1 (by omega), by rw [oc 42 (by omega) (by omega), i5, Int.add_zero], ⟨rfl, rfl, oc (a + 8) (by omega) (by omega)⟩, ⟨by rw [z3 91 (by decide) (by decide) (by decide), m276]; exact m91, rfl, rfl⟩⟩
    obtain ⟨y1, y2⟩ := hj j j0 j1
    obtain ⟨y3, y4⟩ := hc j j0 j1
    exact ⟨y1, by rw [y2]; omega, y3, y4⟩
  have r121' : ∀ i x : Int, 0 ≤ i → i < n → 0 ≤ x → x < 864 → m3 121 (864 * i + x) = m 99 (864 * (12 * fo + I (b + 6) (lo + i)) + x) := fun i x i0 i1 x0 x1 => by
    rw [o3 121 (by decide) (by decide) (by decide), hm2, m134_o (by decide)]
    exact r121 i x i0 (by omega) x0 x1
  obtain ⟨S, R, H, J, m4, r1, r2, alt⟩ := anewl (st := st) (lo := lo) (hi := hi) h0 G0 fo0 fof f8 Fo Co e84 e85 l0 (by omega) h1 (by omega) stb.1 stb.2 (fun j j0 j1 => by
    rw [(kp j j1).1]
    have := (zO.2 j j0 j1).1
    unfold okI
    omega) r121' X0
  obtain ⟨m5, hm5⟩ : ∃ m5, m5 = jms m4 76 91 (m4 76 91 + n) := ⟨_, rfl⟩
  have o5 : ∀ y : Nat, y ≠ 76 → m5 y = m4 y := fun y hy => by rw [hm5, jms_o hy]
  have z5 : ∀ y : Int, y ≠ 91 → m5 76 y = m4 76 y := fun y hy => by rw [hm5, jms_i hy]
  have X5 : CuF S R H J m4 a f S R H J m5 := CuF_m ⟨fun c c1 c2 c3 c4 => o5 c c1, fun z y1 y2 => z5 z y2⟩ (fun i _ => by rw [o5 112 (by decide)])
  have C5 : CuB S R H J m5 a f w h T := CuB_fr r2 X5 r2.1.1 r2.1.2.1 r2.2.1 r2.2.2.2.1.2.2 r2.2.2.2.2.2
  refine ⟨S, R, H, J, m5, CuF_t r1 X5, C5, ?_⟩
  have ec : jd_71 42 (some a) (some b) lo hi st (hh s Q I) = (jd_71_l29 42 (some a) (some b) lo hi st cnt lo (hh s Q I1)).bind fun x75 => jse x75 (fun y77 => some (0, y77)) (fun y78 => some (1, y78)) := by
    have i5' : I 42 ((5 : Nat) : Int) = cnt := i5
    have q6' : Q 42 ((6 : Nat) : Int) = some 3 := q6
    unfold jd_71
    rw [y_gi L 42 4 rfl rfl, Option.bind_some, i5', y_gr L 42 4 rfl rfl, Option.bind_some, q6', Option.bind_some, y_ai L (by omega) 3 8 rfl rfl rfl (by decide) (by decide), Option.bind_some, i32, ← hn, e64, Option.bind_some]
  have em : jd_329 fo sx lo hi m = ((jd_294_l42 0 cnt st 0 0 m3).bind fun x66 => jse x66 (fun y68 => some ((0 : Int), y68)) (fun y69 => jse y69 (fun y70 => some (0, y70)) (fun y71 => some (1, y71)))).bind fun q20 => ((some (jms q20.2 76 91 ((q20.2 76 91) + n))).bind fun m22 => ((jbc q20.1).bind fun u24 => some (q20.1, m22))) := by
    unfold jd_329
    rw [k1, Option.bind_some, k2, Option.bind_some, y_ma 92 96 rfl rfl (by omega) (by omega), Option.bind_some, o2 92 (by decide) (by decide), w92, ← hn, m276, m91]
    unfold jd_294
    rw [e293, Option.bind_some, Option.bind_some, e13, Option.bind_some]
  rcases alt with ⟨y1, y2⟩ | ⟨y1, y2, xC, xF, xG, ⟨len', xB, xl, xW⟩, xR, x5, ⟨x1, x2, x8⟩, ⟨x91, x134, x121⟩⟩
  · left
    refine ⟨by rw [ec, y1]; rfl, ?_⟩
    rw [em, y2, Option.bind_some]
    show (some (jms m4 76 91 ((m4 76 91) + n))).bind (fun m22 => ((jbc 0).bind fun u24 => some ((0 : Int), m22))) = some (0, m5)
    rw [Option.bind_some, show jbc 0 = some () from rfl, Option.bind_some, hm5]
  · right
    refine ⟨len', by rw [ec, y1]; rfl, ?_, C5, FBm_m (z5 47 (by decide)) (fun i _ _ => by rw [o5 112 (by decide)]) xB, xl, by rw [o5 112 (by decide)]; exact xW, ⟨by omega, cT, x5, by rw [hm5, jms_e, x91]⟩, ?_, fun k k0 k1 => ?_, fun x y1 y2 => ?_⟩
    · rw [em, y2, Option.bind_some]
      show (some (jms m4 76 91 ((m4 76 91) + n))).bind (fun m22 => ((jbc 1).bind fun u24 => some ((1 : Int), m22))) = some (1, m5)
      rw [Option.bind_some, show jbc 1 = some () from rfl, Option.bind_some, hm5]
    · refine OrdC_app c0 (by omega) (OrdC_c (fun k k0 k1 => ?_) zO) (OrdC_LG (by omega) LGn) (fun j j0 j1 => ?_)
      · rw [x1, x2]
        exact kp k k1
      · obtain ⟨-, -, y3, y4⟩ := xG.2.2.2 j j0 j1
        exact ⟨y3, y4⟩
    · have r134 : ∀ x : Int, m5 134 x = if cnt ≤ x ∧ x < cnt + n then 0 else m 134 x := fun x => by
        rw [o5 134 (by decide), x134, o3 134 (by decide) (by decide) (by decide), hm2]
        unfold m134
        rw [ims_e, o1 134 (by decide)]
      rw [r134, x8]
      by_cases ck : k < cnt
      · have ob := (zO.2 k k0 ck).2.1
        rw [x2, (kp k ck).2, if_neg (by omega)]
        exact zk k k0 ck
      · obtain ⟨-, -, -, y4⟩ := xG.2.2.2 (k - cnt) (by omega) (by omega)
        obtain ⟨-, -, s1, s2⟩ := LG_k LGn (j := k - cnt) (by omega) (by omega)
        rw [show cnt + (k - cnt) = k by omega] at y4
        rw [y4, if_pos (by omega), z8 _ (by omega) (by omega)]
    · rw [x8]
      exact z8 x (by omega) y2
end AnewG
