/-! readAnew, both sides -/
section AnewAll
variable {yy : Nat} {s : hS} {Q : hQ} {hm : hO} {I m : jM} {f e v y : Int} {a : Nat}
theorem rd_anew (R : RelY yy s Q hm I m) (h6 : s.1 ≤ 900000) (f0 : 0 ≤ f) (f1 : f < m 76 12) (ha : Q 5 f = some a) (e0 : 0 ≤ e) (eT : e < m 87 f) (y0 : 0 ≤ y) (y4 : y < 4) (hv : m 150 y = v) : ∃ (p : Nat) (s' : hS) (Q' : hQ) (hm' : hO) (I' M m' : jM) (fr : Int), jd_114 9 (some a) e v (hh s Q I) = some (p, hh s' Q' I') ∧ jd_309 f m = some M ∧ jd_358 f e M = some fr ∧ jd_359_l219 y e fr (jms M 76 36 fr) = some m' ∧ RelY yy s' Q' hm' I' m' ∧ PicAt s' Q' hm' p (400 + e) ∧ Pix I' p (m 84 f) (m 85 f) (fun j => m' 109 (864 * e + j)) ∧ Sm (fun o => PX o ∧ o ≠ 1037) s Q hm I s' Q' hm' I' ∧ (∀ x : Nat, x ≠ 76 → (x < 102 ∨ 120 < x) → m' x = m x) ∧ (∀ j : Int, j < 32 ∨ 69 < j → m' 76 j = m 76 j) ∧ s'.1 ≤ s.1 + 24 ∧ s'.2.1 ≤ s.2.1 + 10404 := by
  obtain ⟨u1, u2, u3, u4, u5⟩ := id R.2.2.2.2.2.1
  obtain ⟨a', ha', C⟩ := u5 f f0 f1
  rw [ha] at ha'
  cases ha'
  have F := u4 f f0 (by omega) a ha
  have L := R.1
  have a153 := F.1
  obtain ⟨T, hT⟩ : ∃ T, m 87 f = T := ⟨_, rfl⟩
  obtain ⟨n, hn⟩ : ∃ n, m 88 f = n := ⟨_, rfl⟩
  rw [hT] at eT
  have t12 : T ≤ 12 := by rw [← hT]; exact C.2.2.2.1.2.1
  have n24 : 7 ≤ n ∧ n ≤ 24067 := by rw [← hn]; exact C.2.1.2.2.2.2
  obtain ⟨g1, g2⟩ := film_g C
  obtain ⟨en, hen⟩ : ∃ en : Nat, (en : Int) = e := ⟨e.toNat, by omega⟩
  have eg := g2 en (by omega)
  obtain ⟨fr, hfr⟩ : ∃ fr : Int, fr = ((grp (I (a + 7)) en : Nat) : Int) := ⟨_, rfl⟩
  have fb := grp_b (g := I (a + 7)) en
  have key : m 95 (12 * f + fr) % 2 = 1 := by
    rw [hfr, eg]
    exact grp_1 (g := fun j => m 95 (12 * f + j)) (by show m 95 (12 * f + 0) % 2 = 1; rw [Int.add_zero]; exact g1) en
  have c37 : jd_37 a e (hh s Q I) = some fr := by rw [← hen, hfr]; exact c_37 F en (by omega)
  have e28 : hm 28 = 1028 := by rw [Lo L rfl]; rfl
  have S1 : Sm PX s Q hm I s Q hm (jms I 28 0 (m 83 f)) := Sm_jms (by rw [e28]; unfold PX; omega)
  have R1 : RelY yy s Q hm (jms I 28 0 (m 83 f)) m := RelY_spare R (fun _ _ _ => rfl) L S1 Mm_refl
  obtain ⟨s2, Q2, hm2, I2, k1, R2, S2, px, i37, z1, z2⟩ := c_28x (w := m 84 f) (h := m 85 f) (show 0 ≤ fr by omega) (show fr ≤ e + 1 by omega) (by omega) R1 (by omega)
  have L2 := R2.1
  have q5 : Q2 5 = Q 5 := (Lay_fr (a := 5) L S2 (by decide) (by omega)).1
  have i28 : I2 28 0 = m 83 f := by rw [(Lay_fr (a := 28) L S2 (by decide) (by omega)).2, jms_e]
  have F2 := R2.2.2.2.2.2.1.2.2.2.1 f f0 (by omega) a (by rw [q5]; exact ha)
  obtain ⟨a', ha', C2⟩ := R2.2.2.2.2.2.1.2.2.2.2 f f0 f1
  rw [q5, ha] at ha'
  cases ha'
  obtain ⟨A, B⟩ := TpB_of (fr := fr) (e := e) R2 F2 C2 hT hn i28 (by omega) (by omega) eT key (fun j j0 j1 => px j j0 (by omega))
  have hv' : jms (mHn m f n T) 76 36 fr 150 y = v := by rw [jms_o (by decide), mHn_o (by omega) (by decide) (by decide)]; exact hv
  obtain ⟨Q3, I3, m3, l1, l2, J⟩ := anew_l L2 (by omega) F2 B y0 y4 hv'
  obtain ⟨p, p1, p2, p3⟩ := px e (by omega) (by omega)
  have A2 := R2.2.2.2.2.2.2.2.2.2.2.1 e e0 (by omega) p p1
  have pj : ∀ j : Int, fr ≤ j → j ≤ e → hm2 ((Q2 37 j).getD 0 + 1) = 400 + j := fun j j0 j1 => by
    obtain ⟨q, q1, -⟩ := px j j0 (by omega)
    have := R2.2.2.2.2.2.2.2.2.2.2.1 j (by omega) (by omega) q q1
    rw [q1]
    exact this.2.2.1.2.2.2
  have S3 := TpI_sm (e := e) L2 pj (by omega) (by omega) J
  obtain ⟨j1, j2, j3, j4, j5, j9⟩ := id J
  have mo : ∀ x : Nat, x ≠ 76 → (x < 102 ∨ 120 < x) → m3 x = m x := fun x hx h => by
    rw [j4 x hx (by omega), jms_o hx, mHn_o (by omega) hx (by omega)]
  have m76 : ∀ j : Int, j < 32 ∨ 69 < j → m3 76 j = m 76 j := fun j hj => by
    rw [j5 j (by omega), jms_i (by omega)]
    unfold mHn
    rw [hdO_o (by omega), ims_o (by decide), jms_i (by omega), jms_i (by omega), jms_i (by omega), jms_i (by omega), jms_i (by omega), jms_i (by omega)]
  have R3 : RelY yy s2 Q3 hm2 I3 m3 := RelY_spare R2 j1 j2 S3 ⟨⟨m76 1 (by omega), m76 5 (by omega), m76 7 (by omega), m76 8 (by omega), m76 9 (by omega), m76 12 (by omega), m76 86 (by omega), m76 92 (by omega)⟩, fun x hx => mo x (by omega) (by omega)⟩
  have A3 : PicAt s2 Q3 hm2 p (400 + e) := R3.2.2.2.2.2.2.2.2.2.2.1 e e0 (by omega) p (by rw [j1 37 (by decide) (by decide)]; exact p1)
  have ip : I3 p = I2 p := by
    have := A2.1
    refine j3 p (by omega) (by omega) (by omega) (by omega) (fun j y1 y2 ee => ?_)
    obtain ⟨q, q1, -⟩ := px j y1 (by omega)
    have P := R2.2.2.2.2.2.2.2.2.2.2.1 j (by omega) (by omega) q q1
    have ee' : p = q + 1 := by
      have ee2 : p = (Q2 37 j).getD 0 + 1 := ee
      rw [ee2, q1]
      rfl
    have t := A2.2.1.2.1
    rw [ee', P.2.2.1.2.1] at t
    exact absurd t (by decide)
  have X := j9 e (by omega) (by omega)
  have ep : (Q2 37 e).getD 0 = p := by rw [p1]; rfl
  refine ⟨p, s2, Q3, hm2, I3, mHn m f n T, m3, fr, ?_, k_309 f0 (by omega) hT (by omega) t12 hn (by omega) (by omega), ?_, l2, R3, A3, ⟨by rw [ip]; exact p2, by rw [ip]; exact p3, C.2.1.1, C.2.1.2.1, fun pl i p0 p2' i0 i1 => ?_⟩, Sm_trans (Sm_mono S1 (fun o ho => ho.1)) (Sm_trans (Sm_mono S2 (fun o ho => ⟨ho.2, ho.1.2.2.2⟩)) (Sm_mono S3 (fun o ho => ho.1))), mo, m76, by omega, by omega⟩
  · have q4 : ∀ {Q : hQ}, Lay s Q hm → Q 9 ((4 : Nat) : Int) = some 28 := fun L => Lq L rfl
    have q4' : Q3 9 ((4 : Nat) : Int) = some 28 := Lq j2 rfl
    have q15 : Q3 28 ((15 : Nat) : Int) = some 37 := Lq j2 rfl
    have w0 : I a ((0 : Nat) : Int) = m 83 f := C.1.1
    have w1 : jms I 28 ((0 : Nat) : Int) (m 83 f) a ((1 : Nat) : Int) = m 84 f := by rw [jms_o (by omega)]; exact C.1.2.1
    have w2 : jms I 28 ((0 : Nat) : Int) (m 83 f) a ((2 : Nat) : Int) = m 85 f := by rw [jms_o (by omega)]; exact C.1.2.2.1
    have k1' : jd_28 28 (m 84 f) (m 85 f) fr (e + 1) (hh s Q (jms I 28 ((0 : Nat) : Int) (m 83 f))) = some (hh s2 Q2 I2) := k1
    have p1' : Q3 37 e = some p := by rw [j1 37 (by decide) (by decide)]; exact p1
    unfold jd_114
    rw [Option.bind_some, F_ck F, Option.bind_some, c37, Option.bind_some, y_gr L 9 8 rfl rfl, Option.bind_some, q4 L, Option.bind_some, F_gi F, Option.bind_some, w0, Option.bind_some, y_pi L 28 2 rfl rfl, Option.bind_some, y_gr L 9 8 rfl rfl, Option.bind_some, q4 L, Option.bind_some, F_gi F, Option.bind_some, w1, Option.bind_some, F_gi F, Option.bind_some, w2, Option.bind_some, y_ck L 28 2 rfl rfl, Option.bind_some, k1', Option.bind_some, l1, Option.bind_some, y_gr j2 9 8 rfl rfl, Option.bind_some, q4', Option.bind_some, y_gr j2 28 2 rfl rfl, Option.bind_some, q15, Option.bind_some, y_ar j2 37 6 12 rfl rfl rfl e0 (by omega), Option.bind_some, p1', Option.bind_some]
  · have e95 : mHn m f n T 95 = m 95 := mHn_o (by omega) (by decide) (by decide)
    have k := k_358 (m := mHn m f n T) ⟨f0, by omega⟩ (by rw [e95]; exact g1) en (by omega)
    rw [hen, e95, ← eg, ← hfr] at k
    exact k
  · have h := X pl i p0 p2' i0 i1
    have h' : I3 ((Q2 37 e).getD 0 + 1) (pb (m 84 f) (m 85 f) pl + i) = m3 109 (864 * e + (pf pl + i)) ∧ 0 ≤ m3 109 (864 * e + (pf pl + i)) ∧ m3 109 (864 * e + (pf pl + i)) ≤ 255 := h
    rw [ep] at h'
    exact h'
end AnewAll
