/-! cutting: a picture kept, both sides -/
section Keep1
variable {s : hS} {Q : hQ} {hm : hO} {I m : jM} {a b : Nat} {f fo w h T len q k x2 x3 x4 base np : Int}
theorem fl_ne (Fa : FilmAt s Q hm a f) (Fo : FilmAt s Q hm b fo) (ne : fo ≠ f) {i j : Nat} (hi : i < 13) (hj : j < 13) : b + j ≠ a + i := fun e => by
  have h1 := (Fa.2.1 i hi).2.2.2
  have h2 := (Fo.2.1 j hj).2.2.2
  rw [e, h1] at h2
  omega
theorem keep1 (C : CuB s Q hm I m a f w h T) (B : FBm s Q hm I m a f len) (l7 : 7 ≤ len) (l1 : len ≤ 7 + 2005 * q) (W : HBy (m 112) (I (a + 1)) (I (a + 2)) 0 q len) (q0 : 0 ≤ q) (q1 : q < T) (i5 : I 42 5 = q) (h6 : s.1 + 8 < 1000000) (fo0 : 0 ≤ fo) (fof : fo < f) (Fo : FilmAt s Q hm b fo) (Co : FilmC s Q I m b fo) (cod : m 83 fo = 0) (k0 : 0 ≤ k) (k1 : k < m 87 fo) (kx : k < x3) (x12 : x3 ≤ 12) (hp : m 91 (12 * fo + k) - x2 + base = np) (n0 : 0 ≤ np) (n1 : np < 12) (hb : m 76 91 = base) : ∃ (S : hS) (R : hQ) (H : hO) (J m' : jM) (len' : Int), jd_70_s9 42 (some a) (some b) x2 x3 base k (hh s Q I) = some (.inl (k + 1, hh S R J)) ∧ jd_328_s3 fo x4 x3 x2 k m = some (.inl (k + 1, m')) ∧ CuF s Q hm I m a f S R H J m' ∧ CuB S R H J m' a f w h T ∧ FBm S R H J m' a f len' ∧ (7 ≤ len' ∧ len' ≤ 7 + 2005 * (q + 1)) ∧ HBy (m' 112) (J (a + 1)) (J (a + 2)) 0 (q + 1) len' ∧ J 42 5 = q + 1 ∧ (m' 76 91 = base ∧ m' 134 = m 134) ∧ (J (a + 1) q = m 90 (12 * fo + k) ∧ J (a + 2) q = np ∧ J (a + 8) np = 1) ∧ (∀ x : Int, x ≠ q → J (a + 1) x = I (a + 1) x ∧ J (a + 2) x = I (a + 2) x) ∧ ∀ x : Int, x ≠ np → J (a + 8) x = I (a + 8) x := by
  obtain ⟨⟨L, F, f0, f8⟩, hb43, -, ⟨T1, T2, q6⟩, -, c8⟩ := id C
  obtain ⟨⟨u0, u1, u2, u3, u4, u6⟩, ⟨-, -, -, -, v7, v8⟩, ⟨c, cq, cl', cb⟩, V, FK⟩ := id Co
  obtain ⟨⟨k1', k2', k3', k4', k5'⟩, -⟩ := FK k k0 k1
  have Tb : m 87 fo ≤ 12 := V.2.1
  obtain ⟨kd, pl, stp, -, zz, -, -, -, -, -, -, ⟨y0, y1, y2, y3⟩⟩ := V.2.2.2.2.2.2.2 k k0 k1
  have hd := PV_hd V k0 k1
  dsimp only at kd pl stp zz y0 y1 y2 y3 hd
  have stp := stp cod
  obtain ⟨st, hst⟩ : ∃ st, m 92 (12 * fo + k) = st := ⟨_, rfl⟩
  obtain ⟨z, hz⟩ : ∃ z, m 93 (12 * fo + k) = z := ⟨_, rfl⟩
  obtain ⟨d, hd'⟩ : ∃ d, m 94 (12 * fo + k) = d := ⟨_, rfl⟩
  obtain ⟨kk, hkk⟩ : ∃ kk, m 90 (12 * fo + k) = kk := ⟨_, rfl⟩
  obtain ⟨pp, hpp⟩ : ∃ pp, m 91 (12 * fo + k) = pp := ⟨_, rfl⟩
  rw [hst] at k3' stp y2
  rw [hz] at k4' zz y3 hd
  rw [hd'] at k5' hd y0 y1 y2 y3
  rw [hkk] at k1' kd y0
  rw [hpp] at k2' pl y1 hp
  rw [hkk]
  have nb : fo ≠ f := by omega
  have ne : ∀ i j : Nat, i < 13 → j < 13 → b + j ≠ a + i := fun i j hi hj => fl_ne F Fo nb hi hj
  have a153 := F.1
  have b153 := Fo.1
  have s153 := L.1
  obtain ⟨cc, n, hn, ce⟩ := Fo.2.2.2.1 c cq
  have ca : ∀ j : Nat, j < 13 → c ≠ a + j := fun j hj e => by
    have h1 := ce.2.2.2
    rw [e, (F.2.1 j hj).2.2.2] at h1
    omega
  -- the class's ints ahead of the bytes
  obtain ⟨I1, hI1⟩ : ∃ z, z = jms I (a + 1) q kk := ⟨_, rfl⟩
  obtain ⟨I2, hI2⟩ : ∃ z, z = jms I1 (a + 2) q np := ⟨_, rfl⟩
  obtain ⟨I3, hI3⟩ : ∃ z, z = jms I2 (a + 8) np 1 := ⟨_, rfl⟩
  have o1 : ∀ x : Nat, x ≠ a + 1 → I1 x = I x := fun x h1 => by rw [hI1, jms_o h1]
  have o2 : ∀ x : Nat, x ≠ a + 1 → x ≠ a + 2 → I2 x = I x := fun x h1 h2 => by rw [hI2, jms_o h2, o1 x h1]
  have o3 : ∀ x : Nat, x ≠ a + 1 → x ≠ a + 2 → x ≠ a + 8 → I3 x = I x := fun x h1 h2 h3 => by rw [hI3, jms_o h3, o2 x h1 h2]
  have ob : ∀ j : Nat, j < 13 → I1 (b + j) = I (b + j) ∧ I2 (b + j) = I (b + j) ∧ I3 (b + j) = I (b + j) := fun j hj => ⟨o1 _ (ne 1 j (by decide) hj), o2 _ (ne 1 j (by decide) hj) (ne 2 j (by decide) hj), o3 _ (ne 1 j (by decide) hj) (ne 2 j (by decide) hj) (ne 8 j (by decide) hj)⟩
  have o42 : I1 42 = I 42 ∧ I2 42 = I 42 ∧ I3 42 = I 42 := ⟨o1 42 (by omega), o2 42 (by omega) (by omega), o3 42 (by omega) (by omega) (by omega)⟩
  have w1 : I3 (a + 1) = jiu (I (a + 1)) q kk := by rw [hI3, jms_o (by omega), hI2, jms_o (by omega), hI1]; exact jms_at
  have w2 : I3 (a + 2) = jiu (I (a + 2)) q np := by
    rw [hI3, jms_o (by omega), hI2]
    exact jms_at.trans (by rw [o1 (a + 2) (by omega)])
  have w8 : I3 (a + 8) = jiu (I (a + 8)) np 1 := by
    rw [hI3]
    exact jms_at.trans (by rw [o2 (a + 8) (by omega) (by omega)])
  have B3 : FBm s Q hm I3 m a f len := by
    obtain ⟨-, ff, ⟨z1, z2, z3⟩, z4⟩ := B
    refine ⟨F, ff, ⟨by rw [o3 a (by omega) (by omega) (by omega)]; exact z1, z2, z3⟩, ?_⟩
    rcases z4 with e | ⟨t, t1, t2, t3⟩
    · exact Or.inl e
    · refine Or.inr ⟨t, t1, t2, ?_⟩
      rw [o3 t (b_nf F t1 1 (by decide)) (b_nf F t1 2 (by decide)) (b_nf F t1 8 (by decide))]
      exact t3
  have bm : ∀ i : Int, m 89 (24100 * fo + i) % 256 % 256 = m 89 (24100 * fo + i) % 256 := fun i => by omega
  have zb : (m 89 (24100 * fo + (d + 3)) % 256) = z / 256 ∧ (m 89 (24100 * fo + (d + 4)) % 256) = z % 256 := by omega
  have k89 : ∀ i : Int, i ≠ 1 → kpB m (24100 * fo + d) np i = m 89 (24100 * fo + (d + i)) % 256 := fun i hi => by
    unfold kpB
    rw [if_neg hi, show 24100 * fo + d + i = 24100 * fo + (d + i) by omega]
  have k1e : kpB m (24100 * fo + d) np 1 = np := by unfold kpB; rw [if_pos rfl]
  have g0 : kpB m (24100 * fo + d) np 0 = kk := by rw [k89 0 (by decide), Int.add_zero]; exact y0
  have g2 : kpB m (24100 * fo + d) np 2 = st := by rw [k89 2 (by decide)]; exact y2
  have g3 : kpB m (24100 * fo + d) np 3 = z / 256 := by rw [k89 3 (by decide)]; exact zb.1
  have g4 : kpB m (24100 * fo + d) np 4 = z % 256 := by rw [k89 4 (by decide)]; exact zb.2
  obtain ⟨S, R, H, J, e27, L1, B1, X1, r6⟩ := keepb (g := kpB m (24100 * fo + d) np) (c := c) (sp := d + 5) (z := z) (q := q) (st := st) L B3 (by generalize bzR s Q a = z1; omega) (by omega) q0 (by omega) ce.1 ce.2.1 (by omega) (by rw [ce.2.2.1]; rcases hn with e | e <;> rw [e] <;> decide) (ca 0 (by decide)) (by rw [ce.2.2.2]; omega) (by omega) zz.1 zz.2 (by omega) (by rw [w1, g0]; unfold jiu; rw [if_pos rfl]) (by rw [w2, k1e]; unfold jiu; rw [if_pos rfl]) (by rw [g2]) (by rw [g3]) (by rw [g4]; omega) (fun i i0 i1 => by
    rw [o3 c (ca 1 (by decide)) (ca 2 (by decide)) (ca 8 (by decide)), k89 (5 + i) (by omega)]
    have := cb (d + 5 + i) (by omega) (by omega)
    rw [show d + (5 + i) = d + 5 + i by omega]
    unfold jwb at this
    omega)
  have km := k_328b (x1 := fo) (x2 := x4) (x3 := x3) (x4 := x2) (x5 := k) (x6 := 12 * fo + k) (np := np) (len := len) fo0 (by omega) (by omega) (by omega) hz hd' zz.1 zz.2 (by omega) (by omega) (by rw [hpp, hb]; exact hp) B.2.2.1.2.2 (by omega) (by omega)
  obtain ⟨m', hm'⟩ : ∃ m', m' = mCp m (kpB m (24100 * fo + d) np) len (5 + z) := ⟨_, rfl⟩
  rw [← hm'] at km B1
  obtain ⟨p1, p2, p3, p4, p5⟩ := mCp_f (m := m) (g := kpB m (24100 * fo + d) np) (len := len) (t := 5 + z)
  rw [← hm'] at p1 p2 p3 p4 p5
  obtain ⟨x1, x2', x3', x4', x5, x6, x7, x8⟩ := id X1
  have F1 := B1.1
  obtain ⟨J4, hJ4⟩ : ∃ J4, J4 = jms J 42 5 (q + 1) := ⟨_, rfl⟩
  have oj : ∀ x : Nat, x ≠ 42 → J4 x = J x := fun x hx => by rw [hJ4, jms_o hx]
  have jf : ∀ j : Nat, 0 < j → j < 13 → J4 (a + j) = I3 (a + j) := fun j j0 j1 => by
    have cj := F.2.1 j j1
    rw [oj (a + j) (by omega), x4' (a + j) cj.1 (by omega) (by rw [cj.2.2.2]; omega)]
  have q43 : R 43 = Q 43 := x1 43 (by omega) (by omega)
  have j1 : J4 (a + 1) = jiu (I (a + 1)) q kk := by rw [jf 1 (by decide) (by decide), w1]
  have j2 : J4 (a + 2) = jiu (I (a + 2)) q np := by rw [jf 2 (by decide) (by decide), w2]
  have j8 : J4 (a + 8) = jiu (I (a + 8)) np 1 := by rw [jf 8 (by decide) (by decide), w8]
  have jo : ∀ (g : Int → Int) (x y v : Int), x ≠ y → jiu g y v x = g x := fun g x y v hx => by unfold jiu; rw [if_neg hx]
  have je : ∀ (g : Int → Int) (y v : Int), jiu g y v y = v := fun g y v => by unfold jiu; rw [if_pos rfl]
  have CF : CuF s Q hm I m a f S R H J4 m' := by
    refine CuF_t (CuF_I (I' := I3) (fun x xs hx => ?_)) (CuF_t (s' := S) (Q' := R) (hm' := H) (I' := J) (m' := m') ⟨Sm_mono (BF_Sm F X1) (fun o ho => by unfold PD at ho; unfold PG; omega), ⟨fun c c1 c2 c3 c4 => p1 c c1 (by omega), fun y h1 h2 => p2 y (by omega)⟩, BF_Gm q43 X1, fun i hi => p4 i (by omega)⟩ (CuF_I (fun x xs hx => oj x (fun e => ?_))))
    · have nf : ∀ j : Nat, j < 13 → x ≠ a + j := fun j hj e => by
        rw [e, (F.2.1 j hj).2.2.2] at hx
        unfold PD at hx
        omega
      exact o3 x (nf 1 (by decide)) (nf 2 (by decide)) (nf 8 (by decide))
    · rw [e, Lo L1 rfl] at hx
      unfold PD at hx
      omega
  have B4 : FBm S R H J4 m' a f (len + 5 + z) := by
    obtain ⟨-, ff, ⟨z1, z2, z3⟩, z4⟩ := B1
    refine ⟨F1, ff, ⟨by rw [oj a (by omega)]; exact z1, z2, z3⟩, ?_⟩
    rcases z4 with e | ⟨t, t1, t2, t3⟩
    · exact Or.inl e
    · refine Or.inr ⟨t, t1, t2, ?_⟩
      rw [oj t (by have := (F1.2.2.2.1 t t1).1; omega)]
      exact t3
  refine ⟨S, R, H, J4, m', len + 5 + z, ?_, ?_, CF, CuB_fr C CF L1 F1 (fun y hy => ?_) (by rw [x1 42 (by omega) (by omega)]; exact q6) (fun j j0 jT => ?_), B4, ⟨by omega, by omega⟩, ?_, by rw [hJ4, jms_e], ⟨by rw [p2 91 (by decide)]; exact hb, p1 134 (by decide) (by decide)⟩, ⟨by rw [j1, je], by rw [j2, je], by rw [j8, je]⟩, fun x hx => ⟨by rw [j1, jo _ _ _ _ hx], by rw [j2, jo _ _ _ _ hx]⟩, fun x hx => by rw [j8, jo _ _ _ _ hx]⟩
  · have h6' : s.1 ≤ 1000000 := by omega
    have a7 := F_q F 0 7 rfl rfl
    have a8 := F_q F 1 8 rfl rfl
    have a14 := F_q F 7 14 rfl rfl
    have b7 := F_q Fo 0 7 rfl rfl
    have b8 := F_q Fo 1 8 rfl rfl
    have b9 := F_q Fo 2 9 rfl rfl
    have b10 := F_q Fo 3 10 rfl rfl
    have b11 := F_q Fo 4 11 rfl rfl
    have b5 : Q b ((5 : Nat) : Int) = some c := cq
    have i5' : I 42 ((5 : Nat) : Int) = q := i5
    have i51 : I1 42 ((5 : Nat) : Int) = q := by rw [o42.1]; exact i5
    have i52 : I2 42 ((5 : Nat) : Int) = q := by rw [o42.2.1]; exact i5
    have i53 : I3 42 ((5 : Nat) : Int) = q := by rw [o42.2.2]; exact i5
    have i54 : J 42 ((5 : Nat) : Int) = q := by
      rw [x4' 42 (by omega) (by omega) (by rw [Lo L rfl]; omega), o42.2.2]
      exact i5
    have e1 : I (b + (0 + 1)) k = kk := k1'
    have e2 : I1 (b + (1 + 1)) k = pp := by rw [(ob 2 (by decide)).1]; exact k2'
    have e3 : I2 (a + (1 + 1)) q = np := by rw [hI2, show a + (1 + 1) = a + 2 from rfl, jms_e]
    have e5 : I3 (b + (4 + 1)) k = d := by rw [(ob 5 (by decide)).2.2]; exact k5'
    have e6 : I3 (b + (2 + 1)) k = st := by rw [(ob 3 (by decide)).2.2]; exact k3'
    have e7 : I3 (b + (3 + 1)) k = z := by rw [(ob 4 (by decide)).2.2]; exact k4'
    have en : base + pp - x2 = np := by omega
    unfold jd_70_s9
    rw [n_jw (z := x3) (by omega) (by omega), n_jw (z := k) (by omega) (by omega), if_neg (by omega), Option.bind_some, F_gr F, Option.bind_some, a7, y_gi L 42 4 rfl rfl, Option.bind_some, i5', Option.bind_some, F_gr Fo, Option.bind_some, b7, Option.bind_some, F_ai Fo h6' (0 + 1) 12 rfl rfl rfl k0 (by omega), Option.bind_some, e1, Option.bind_some, F_ta F (0 + 1) 0 12 rfl rfl rfl q0 (by omega), Option.bind_some, show jms I (a + (0 + 1)) q kk = I1 from hI1.symm, Option.bind_some, F_gr F, Option.bind_some, a8, y_gi L 42 4 rfl rfl, Option.bind_some, i51, Option.bind_some, F_gr Fo, Option.bind_some, b8, Option.bind_some, F_ai Fo h6' (1 + 1) 12 rfl rfl rfl k0 (by omega), Option.bind_some, e2, Option.bind_some, en, F_ta F (1 + 1) 0 12 rfl rfl rfl q0 (by omega), Option.bind_some, show jms I1 (a + (1 + 1)) q np = I2 from hI2.symm, Option.bind_some, F_gr F, Option.bind_some, a14, Option.bind_some, F_gr F, Option.bind_some, a8, y_gi L 42 4 rfl rfl, Option.bind_some, i52, Option.bind_some, F_ai F h6' (1 + 1) 12 rfl rfl rfl q0 (by omega), Option.bind_some, e3, Option.bind_some, F_ta F (7 + 1) 2 12 rfl rfl rfl n0 (by omega), Option.bind_some, show jms I2 (a + (7 + 1)) np 1 = I3 from hI3.symm, Option.bind_some, F_gr Fo, Option.bind_some, b11, Option.bind_some, F_ai Fo h6' (4 + 1) 12 rfl rfl rfl k0 (by omega), Option.bind_some, e5, y_gi L 42 4 rfl rfl, Option.bind_some, i53, Option.bind_some, F_gr Fo, Option.bind_some, b9, Option.bind_some, F_ai Fo h6' (2 + 1) 12 rfl rfl rfl k0 (by omega), Option.bind_some, e6, Option.bind_some, F_gr Fo, Option.bind_some, b5, Option.bind_some, F_gr Fo, Option.bind_some, b10, Option.bind_some, F_ai Fo h6' (3 + 1) 12 rfl rfl rfl k0 (by omega), Option.bind_some, e7, Option.bind_some, F_ck F, Option.bind_some, e27, Option.bind_some, y_gi L1 42 4 rfl rfl, Option.bind_some, i54, y_pi L1 42 4 rfl rfl, Option.bind_some, hJ4]
    rfl
  · unfold jd_328_s3
    rw [n_jw (z := x3) (by omega) (by omega), n_jw (z := k) (by omega) (by omega), if_neg (by omega), km, Option.bind_some]
  · rw [q43] at hy
    obtain ⟨t1, t2⟩ := hb43 y hy
    obtain ⟨t3, t4, t5⟩ := x3' y t2.1
    exact ⟨t1, Nat.lt_of_lt_of_le t2.1 x6, t4.trans t2.2.1, t5.trans t2.2.2.1, t3.trans t2.2.2.2⟩
  · obtain ⟨p, t1, t2, t3⟩ := c8 j j0 jT
    have pa := F.2.2.2.2 j j0 (by omega) p t1
    have c9 := F.2.1 9 (by decide)
    have np' : ∀ i : Nat, i < 13 → p ≠ a + i := fun i hi e => by
      have := pa.2.1.2.2.2
      rw [e, (F.2.1 i hi).2.2.2] at this
      omega
    have jp : J4 p = I p := by
      rw [oj p (by have := pa.1; omega), x4' p pa.2.1.1 (np' 0 (by decide)) (by rw [pa.2.1.2.2.2]; omega), o3 p (np' 1 (by decide)) (np' 2 (by decide)) (np' 8 (by decide))]
    exact ⟨p, by rw [x1 (a + 9) c9.1 (by omega)]; exact t1, by rw [jp]; exact t2, by rw [jp]; exact t3⟩
  · refine HBy_s (st := st) q0 l7 (HBy_kp W (fun i hi => rfl) (fun y y0 y1 => ⟨by rw [j1, jo _ _ _ _ (by omega)], by rw [j2, jo _ _ _ _ (by omega)]⟩)) zz.1 zz.2 (fun _ => stp) (fun e => absurd rfl e) (fun i hi => p4 i hi) ?_ ?_ ?_ ?_ ?_
    · rw [p5 len (Int.le_refl _) (by omega), show len - len = 0 by omega, g0, j1, je]
    · rw [p5 (len + 1) (by omega) (by omega), show len + 1 - len = 1 by omega, k1e, j2, je]
    · rw [p5 (len + 2) (by omega) (by omega), show len + 2 - len = 2 by omega, g2]
    · rw [p5 (len + 3) (by omega) (by omega), show len + 3 - len = 3 by omega, g3]
    · rw [p5 (len + 4) (by omega) (by omega), show len + 4 - len = 4 by omega, g4]
end Keep1
