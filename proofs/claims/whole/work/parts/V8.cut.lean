/-! CUT -/
section CutAll
variable {s s' : hS} {Q Q' : hQ} {hm hm' : hO} {I I' m m' : jM} {a : Nat} {f w h : Int}
/-- the relation when the rows are forgotten -/
theorem RelH_nr (R : RelH s Q hm I m) {v : Int} : RelH s Q hm (jms I 0 10 0) (jms (jms m 76 0 v) 76 86 0) := by
  obtain ⟨L, r1, r2, r3, r4, r5, r6, r7, r8, r9⟩ := R
  have S : Sm (fun o => o ≠ 1000) s Q hm I s Q hm (jms I 0 10 0) := Sm_jms (by rw [Lo L rfl]; decide)
  have i0 : ∀ y : Int, y ≠ 10 → jms I 0 10 0 0 y = I 0 y := fun y hy => jms_i hy
  have n0 : ∀ y : Int, y ≠ 0 → y ≠ 86 → jms (jms m 76 0 v) 76 86 0 76 y = m 76 y := fun y h1 h2 => by rw [jms_i h2, jms_i h1]
  have mo : ∀ x : Nat, x ≠ 76 → jms (jms m 76 0 v) 76 86 0 x = m x := fun x hx => by rw [jms_o hx, jms_o hx]
  refine ⟨L, RPic_fr L S (by decide) (fun i _ _ => by omega) (i0 1 (by decide)) (n0 1 (by decide) (by decide)) (mo 77 (by decide)) (mo 78 (by decide)) (mo 79 (by decide)) r1, RTap_fr (i0 3 (by decide)) (jms_o (by decide)) (n0 5 (by decide) (by decide)) (mo 80 (by decide)) r2, RSet_fr (jms_o (by decide)) (mo 82 (by decide)) r3, RRee_fr L S (by decide) (fun i _ _ => by omega) (i0 6 (by decide)) (n0 7 (by decide) (by decide)) (n0 8 (by decide) (by decide)) (n0 9 (by decide) (by decide)) (mo 81 (by decide)) r4, RFil_fr L S (by decide) (fun i _ _ => by omega) (fun i _ _ => by omega) (fun i _ _ => by omega) (i0 8 (by decide)) (n0 12 (by decide) (by decide)) (fun x h1 h2 => mo x (by omega)) r5, ⟨by rw [jms_e, jms_e], by rw [jms_e]; decide, by rw [jms_e]; decide, fun r h1 h2 => ?_⟩, RFlt_fr L S (by decide) (fun i _ _ => by omega) (i0 12 (by decide)) (n0 92 (by decide) (by decide)) (mo 135 (by decide)) (mo 136 (by decide)) (mo 137 (by decide)) r7, RPly_fr L S (by decide) (fun i _ _ => by omega) (fun i _ _ => by omega) (n0 12 (by decide) (by decide)) (fun x h1 h2 => mo x (by omega)) (fun x h1 h2 => mo x (by omega)) r9 r8, r9⟩
  rw [jms_e] at h2
  omega
theorem RwC_fr2 {r : Int} (L : Lay s Q hm) (f8 : f < 8) (X : Sm (PD f) s Q hm I s' Q' hm' I') (Mc : MC m m') (W : RwC s Q hm I m f w h r) : RwC s' Q' hm' I' m' f w h r := by
  obtain ⟨⟨w1, w2, w3⟩, ⟨f0, ff⟩, w5, w6, ⟨b, b1, b2, b3⟩⟩ := W
  have M := Mc.1
  have r6 := (Lay_fr (a := 6) L X (by decide) (by unfold PD; omega)).2
  have r5 := (Lay_fr (a := 5) L X (by decide) (by unfold PD; omega)).1
  obtain ⟨F', k0, k1, k2⟩ := FilmAt_fr1 X (fun k _ _ => by unfold PD; omega) (by unfold PD; omega) (by unfold PD; omega) b2
  have C' := FilmC_fr b2 k0 k1 k2 (fun x h1 h2 => M x (by omega) (by omega) (by omega) (by omega)) b3
  unfold RwC
  rw [M 131 (by decide) (by decide) (by decide) (by decide), M 132 (by decide) (by decide) (by decide) (by decide), M 133 (by decide) (by decide) (by decide) (by decide), M 87 (by decide) (by decide) (by decide) (by decide), M 83 (by decide) (by decide) (by decide) (by decide), M 84 (by decide) (by decide) (by decide) (by decide), M 85 (by decide) (by decide) (by decide) (by decide), r6, r5]
  exact ⟨⟨w1, w2, w3⟩, ⟨f0, ff⟩, w5, w6, b, b1, F', C'⟩
theorem si_cut (R : RelH s Q hm I m) (h6 : s.1 ≤ 900000) : SimI (jd_166 0 (hh s Q I)) (jd_330 m) (fun E => if E = 1 then 1 else 0) s Q I := by
  have L := R.1
  obtain ⟨t1, t2, t3, t4, t5⟩ := id R.2.2.2.2.2.1
  by_cases nn : ¬ m 76 12 < 8
  · refine SimI_th (E := 1) (b := 0) R ?_ ?_ (by decide)
    · unfold jd_166
      rw [y_ck L 0 11 rfl rfl, Option.bind_some, c_196n R (by omega) nn, b_jtx]
    · unfold jd_330
      rw [n_jw (z := m 76 12) (by omega) (by omega), if_pos (by omega), Option.bind_some, if_neg (show ¬ jw (jms m 76 0 1 76 0) ≤ 0 by rw [jms_e]; decide)]
      rfl
  have hn : m 76 12 < 8 := Classical.not_not.mp nn
  obtain ⟨a, s1, Q1, hm1, I1, e1, ha, F1, S1, R1, g1, g2⟩ := c_196 R h6 hn
  obtain ⟨f, hf⟩ : ∃ f, m 76 12 = f := ⟨_, rfl⟩
  rw [hf] at ha F1 hn t2
  have L1 := R1.1
  have a153 := F1.1
  obtain ⟨m4, hm4⟩ : ∃ m4, m4 = jms (jms m 76 0 0) 76 86 0 := ⟨_, rfl⟩
  obtain ⟨I2, hI2⟩ : ∃ I2, I2 = jms I1 0 10 0 := ⟨_, rfl⟩
  have R2 : RelH s1 Q1 hm1 I2 m4 := by rw [hm4, hI2]; exact RelH_nr R1
  have m4o : ∀ x : Nat, x ≠ 76 → m4 x = m x := fun x hx => by rw [hm4, jms_o hx, jms_o hx]
  have m4z : ∀ y : Int, y ≠ 0 → y ≠ 86 → m4 76 y = m 76 y := fun y h1 h2 => by rw [hm4, jms_i h2, jms_i h1]
  have m40 : m4 76 0 = 0 := by rw [hm4, jms_i (by decide), jms_e]
  have hf4 : m4 76 12 = f := by rw [m4z 12 (by decide) (by decide)]; exact hf
  have i2o : ∀ x : Nat, x ≠ 0 → I2 x = I1 x := fun x hx => by rw [hI2, jms_o hx]
  obtain ⟨w1, w2, w3, w4⟩ := id R1.2.2.2.2.2.2.1
  obtain ⟨N, hN⟩ : ∃ N : Nat, (N : Int) = m 76 86 := ⟨(m 76 86).toNat, by omega⟩
  rw [← hN] at w1 w2 w3 w4
  have N8 : N ≤ 8 := by omega
  have t5' := R2.2.2.2.2.2.1.2.2.2.2
  have t4' := R2.2.2.2.2.2.1.2.2.2.1
  rw [hf4] at t5'
  have film : ∀ r : Int, 0 ≤ r → r < (N : Int) → (I2 6 (3 * r) = m4 131 r ∧ I2 6 (3 * r + 1) = m4 132 r ∧ I2 6 (3 * r + 2) = m4 133 r) ∧ (0 ≤ m4 131 r ∧ m4 131 r < f) ∧ (0 ≤ m4 132 r ∧ m4 132 r ≤ m4 133 r ∧ m4 133 r < m4 87 (m4 131 r)) ∧ m4 83 (m4 131 r) = 0 ∧ ∃ b, Q1 5 (m4 131 r) = some b ∧ FilmAt s1 Q1 hm1 b (m4 131 r) ∧ FilmC s1 Q1 I2 m4 b (m4 131 r) := fun r r0 r1 => by
    obtain ⟨v1, v2, v3, v4, v5, v6, v7, v8, v9⟩ := w4 r r0 r1
    rw [hf] at v5
    obtain ⟨b, b1, b2⟩ := t5' (m4 131 r) (by rw [m4o 131 (by decide)]; exact v4) (by rw [m4o 131 (by decide)]; exact v5)
    have b3 := t4' (m4 131 r) (by rw [m4o 131 (by decide)]; exact v4) (by rw [m4o 131 (by decide)]; omega) b b1
    rw [i2o 6 (by decide)]
    refine ⟨?_, ?_, ?_, ?_, b, b1, b3, b2⟩
    · rw [m4o 131 (by decide), m4o 132 (by decide), m4o 133 (by decide)]
      exact ⟨v1, v2, v3⟩
    · rw [m4o 131 (by decide)]
      exact ⟨v4, v5⟩
    · rw [m4o 131 (by decide), m4o 132 (by decide), m4o 133 (by decide), m4o 87 (by decide)]
      exact ⟨v7, v8, v9⟩
    · rw [m4o 131 (by decide), m4o 83 (by decide)]
      exact v6
  have hR : ∀ r : Int, 0 ≤ r → r < (N : Int) → RwR s1 Q1 hm1 I2 m4 f r := fun r r0 r1 => by
    obtain ⟨v1, v2, ⟨v3, v4, v5⟩, -, b, b1, b2, b3⟩ := film r r0 r1
    have := b3.2.2.2.1.2.1
    exact ⟨v1, v2, ⟨v3, v4, by omega⟩, b, b1, b2, b3.1.2.1, b3.1.2.2.1, b3.2.1.1, b3.2.1.2.1⟩
  have fin : ∀ {v : Int} {s' : hS} {Q' : hQ} {hm' : hO} {I' m' : jM}, jd_166 0 (hh s Q I) = some (.inl v, hh s' Q' I') → jd_330 m = some (v, m') → m' 76 0 = 0 → RelH s' Q' hm' I' m' → Sm (PL f) s1 Q1 hm1 I1 s' Q' hm' I' → s'.1 ≤ s1.1 + 76 → s'.2.1 ≤ s1.2.1 + 87346 → SimI (jd_166 0 (hh s Q I)) (jd_330 m) (fun E => if E = 1 then 1 else 0) s Q I := fun {v s' Q' hm' I' m'} x1 x2 x3 x4 x5 x6 x7 => by
    have y1 := S1.1
    have y2 := x5.1
    exact Or.inl ⟨v, v, s', Q', I', m', x1, x2, x3, rfl, Kp_of L (P := fun o => 1076 ≤ o) (Sm_trans (Sm_mono S1 (fun o ho => by omega)) (Sm_mono x5 (fun o ho => by unfold PL; omega))) (fun x xa xb => by omega), ⟨by omega, by omega, by omega⟩, hm', x4⟩
  have S2 : Sm (PL f) s1 Q1 hm1 I1 s1 Q1 hm1 I2 := by rw [hI2]; exact Sm_jms (by rw [Lo L1 rfl]; unfold PL; omega)
  obtain ⟨v, e199, alt1⟩ := c_199 (m := m4) (I := I2) L1 (by omega) (by omega) N8 hR
  obtain ⟨u, e52, alt2⟩ := k_52 (m := m4) (f := f) (by omega) N8 hR
  have i10 : I1 0 ((10 : Nat) : Int) = (N : Int) := w1
  have m86 : jms m 76 0 0 76 86 = (N : Int) := by rw [jms_i (by decide)]; exact hN.symm
  obtain ⟨T, hT⟩ : ∃ T, rSm m4 N = T := ⟨_, rfl⟩
  rw [hT] at e52 alt1
  have Tb := rSm_b (m := m4) (N := N) (fun r r0 r1 => (hR r r0 r1).2.2.1) N (Nat.le_refl _)
  rw [hT] at Tb
  by_cases can : 0 < N ∧ T ≤ 12 ∧ RwQ m4 (N : Int)
  · -- it can be cut
    have v1 : v = 1 := by
      rcases alt1 with ⟨e, -⟩ | ⟨-, e⟩
      · exact e
      · exact absurd can e
    have u1 : u = 1 := by
      rcases alt2 with ⟨e, -⟩ | ⟨-, e⟩
      · exact e
      · exact absurd ⟨can.1, can.2.2⟩ e
    obtain ⟨n0, T2, E⟩ := can
    have T1 : 1 ≤ T := by omega
    obtain ⟨⟨x1, -, -⟩, ⟨fo0, fof⟩, -, -, b, b1, Fo, Co⟩ := film 0 (Int.le_refl _) (by omega)
    have x1' : I2 6 0 = m4 131 0 := x1
    obtain ⟨fo, hfo⟩ : ∃ fo, m4 131 0 = fo := ⟨_, rfl⟩
    rw [hfo] at fo0 fof b1 Fo Co x1'
    obtain ⟨w, hw⟩ : ∃ w, m4 84 fo = w := ⟨_, rfl⟩
    obtain ⟨h, hh'⟩ : ∃ h, m4 85 fo = h := ⟨_, rfl⟩
    -- the model ahead of the head
    obtain ⟨m9, hm9⟩ : ∃ m9, m9 = jms (jms (jms m4 76 32 0) 76 33 w) 76 34 h := ⟨_, rfl⟩
    have m9o : ∀ x : Nat, x ≠ 76 → m9 x = m4 x := fun x hx => by rw [hm9, jms_o hx, jms_o hx, jms_o hx]
    have m9z : ∀ y : Int, y ≠ 32 → y ≠ 33 → y ≠ 34 → m9 76 y = m4 76 y := fun y h1 h2 h3 => by rw [hm9, jms_i h3, jms_i h2, jms_i h1]
    have a32 : m9 76 32 = 0 := by rw [hm9, jms_i (by decide), jms_i (by decide), jms_e]
    have a33 : m9 76 33 = w := by rw [hm9, jms_i (by decide), jms_e]
    have a34 : m9 76 34 = h := by rw [hm9, jms_e]
    have Co9 : FilmC s1 Q1 I2 m9 b fo := FilmC_fr Fo (fun _ _ => ⟨rfl, rfl⟩) (fun _ _ => ⟨rfl, rfl⟩) (fun _ _ _ _ _ => ⟨rfl, rfl⟩) (fun x h1 h2 => m9o x (by omega)) Co
    obtain ⟨S, Rr, H, J, m5, c1, c2, Z, hbts, SD, mg, gr⟩ := cu_open (T := T) L1 F1 t2 hn R1.2.2.2.2.2.2.2.2.2.1 (fun k k0 k1 => by rw [m9o 82 (by decide)]; exact R2.2.2.2.1 k k0 k1) fo0 fof Fo Co9 (by rw [m9o 84 (by decide)]; exact hw) (by rw [m9o 85 (by decide)]; exact hh') T1 T2 a32 a33 a34 (by omega)
    have rtb : 1 ≤ m9 86 fo ∧ m9 86 fo ≤ 60 := ⟨Co9.2.1.2.2.1, Co9.2.1.2.2.2.1⟩
    have swh : isSd w ∧ isSd h := ⟨Z.1.2.2.1.2.2.2.1, Z.1.2.2.1.2.2.2.2⟩
    have e22 := c_22 (I := I2) F1
    obtain ⟨I3, hI3⟩ : ∃ z, z = ims (jms I2 a 6 0) (a + 8) (fun x => if 0 ≤ x ∧ x < 12 then 0 else I2 (a + 8) x) := ⟨_, rfl⟩
    rw [← hI3] at e22
    rw [e22, Option.bind_some] at c1
    have i3o : ∀ x : Nat, x < 153 → I3 x = I2 x := fun x hx => by rw [hI3, ims_o (by omega), jms_o (by omega)]
    have e198 : jd_198 0 (N : Int) (hh s1 Q1 I3) = some T := by
      rw [← hT]
      exact c_198 (m := m4) L1 (by omega) N8 (fun r r0 r1 => by rw [i3o 6 (by decide)]; exact (hR r r0 r1).1.2)
    have m5c : MC m9 (jms m5 76 91 0) := MC_t (MC_G mg) ⟨fun c c1 _ _ _ => jms_o c1, fun z _ h2 => jms_i h2⟩
    have hW : ∀ r : Int, 0 ≤ r → r < (N : Int) → RwC S Rr H J (jms m5 76 91 0) f w h r := fun r r0 r1 => by
      refine RwC_fr2 L1 hn SD m5c ?_
      obtain ⟨v1, v2, v3, v4, bb, bb1, bb2, bb3⟩ := film r r0 r1
      obtain ⟨q1, q2⟩ := E r r0 r1
      rw [hfo, hw] at q1
      rw [hfo, hh'] at q2
      unfold RwC
      rw [m9o 131 (by decide), m9o 132 (by decide), m9o 133 (by decide), m9o 83 (by decide), m9o 84 (by decide), m9o 85 (by decide), m9o 87 (by decide)]
      exact ⟨v1, v2, v3, ⟨v4, q1, q2⟩, bb, bb1, bb2, FilmC_fr bb2 (fun _ _ => ⟨rfl, rfl⟩) (fun _ _ => ⟨rfl, rfl⟩) (fun _ _ _ _ _ => ⟨rfl, rfl⟩) (fun x h1 h2 => m9o x (by omega)) bb3⟩
    have gr0 := grow_2 gr (Gm_refl (a := a))
    have hT5 : rSm (jms m5 76 91 0) N = T := by
      rw [← hT]
      exact rSm_c (by rw [m5c.1 132 (by decide) (by decide) (by decide) (by decide), m9o 132 (by decide)]) (by rw [m5c.1 133 (by decide) (by decide) (by decide) (by decide), m9o 133 (by decide)]) N
    obtain ⟨S5, R5, H5, J5, m6, X5, C5, alt⟩ := rows_l (x2 := T) Z (by omega) N8 hW hT5
    have gr5 := grow_2 gr X5.2.2.1
    have mc6 : MC m9 m6 := MC_t m5c X5.2.1
    have S5L : Sm (PL f) s1 Q1 hm1 I2 S5 R5 H5 J5 := Sm_mono (Sm_trans SD X5.1) (fun o ho => by unfold PL at ho; unfold PD; omega)
    have j0 : J5 0 = I2 0 := (Lay_fr (a := 0) L1 (Sm_trans SD X5.1) (by decide) (by unfold PD; omega)).2
    have qx : ∀ x : Nat, x ≠ 76 → ¬ (102 ≤ x ∧ x ≤ 130) → x ≠ 134 → m6 x = m4 x := fun x h1 h2 h3 => by rw [mc6.1 x h1 (by omega) (by omega) h3, m9o x h1]
    have qj : ∀ j : Int, j ≠ 0 → j ≠ 91 → j < 32 ∨ 84 ≤ j → m6 76 j = m4 76 j := fun j h1 h2 h3 => by rw [mc6.2 j (by omega) h2, m9z j (by omega) (by omega) (by omega)]
    have q0 : m6 76 0 = 0 := by rw [mc6.2 0 (by decide) (by decide), m9z 0 (by decide) (by decide) (by decide)]; exact m40
    have em : jd_330 m = (jd_330_l217 (N : Int) T 0 (jms m5 76 91 0)).bind fun x69 => jse x69 (fun y71 => some ((-1), y71)) (fun y72 => ((jd_301 y72).bind fun q73 => (if (jw q73.1) = (-1) then ((jd_308 q73.2).bind fun q76 => ((jd_330_l282 T q76.1 0 q76.2).bind fun x85 => some (q76.1, x85))) else some ((-1), q73.2)))) := by
      have y0 : jw (m 76 12) = m 76 12 := n_jw (by omega) (by omega)
      have z1 : jms m4 76 32 0 84 fo = w := by rw [jms_o (by decide)]; exact hw
      have z2 : jms (jms m4 76 32 0) 76 33 w 85 fo = h := by rw [jms_o (by decide), jms_o (by decide)]; exact hh'
      have z3 : jms m4 76 32 0 131 0 = fo := by rw [jms_o (by decide)]; exact hfo
      have z4 : jms (jms m4 76 32 0) 76 33 w 131 0 = fo := by rw [jms_o (by decide), jms_o (by decide)]; exact hfo
      have z5 : m9 131 0 = fo := by rw [m9o 131 (by decide)]; exact hfo
      unfold jd_330
      rw [y0, if_neg (by omega), Option.bind_some, if_pos (show jw (jms m 76 0 0 76 0) ≤ 0 by rw [jms_e]; decide), Option.bind_some, ← hm4, m86, Option.bind_some, e52, Option.bind_some]
      show (if jw u = 0 then _ else (if jw T ≤ 12 then _ else _)) = _
      rw [u1, if_neg (show ¬ jw 1 = 0 by decide), n_jw (z := T) (by omega) (by omega), if_pos T2, Option.bind_some, y_ma 131 8 rfl rfl (by decide) (by decide), Option.bind_some, z3, y_ma 84 8 rfl rfl fo0 (by omega), Option.bind_some, z1, Option.bind_some, y_ma 131 8 rfl rfl (by decide) (by decide), Option.bind_some, z4, y_ma 85 8 rfl rfl fo0 (by omega), Option.bind_some, z2, Option.bind_some, ← hm9, y_ma 131 8 rfl rfl (by decide) (by decide), Option.bind_some, z5, y_ma 86 8 rfl rfl fo0 (by omega), Option.bind_some, c2, Option.bind_some, Option.bind_some]
    have ec : jd_166 0 (hh s Q I) = (jd_166_l59 0 (some a) (N : Int) 0 (hh S Rr J)).bind fun x81 => jse x81 (fun y83 => some (.inl (-1), y83)) (fun y84 => ((jck y84 0 11).bind fun u85 => ((jd_197 0 (some a) y84).bind fun q87 => some (.inl q87.1, q87.2)))) := by
      have u15 : Q1 0 ((15 : Nat) : Int) = some 42 := Lq L1 rfl
      have u7 : Q1 0 ((7 : Nat) : Int) = some 5 := Lq L1 rfl
      have u9 : Q1 0 ((9 : Nat) : Int) = some 6 := Lq L1 rfl
      have u4 : Q1 0 ((4 : Nat) : Int) = some 3 := Lq L1 rfl
      have i36 : I3 6 0 = fo := by rw [i3o 6 (by decide)]; exact x1'
      unfold jd_166
      rw [y_ck L 0 11 rfl rfl, Option.bind_some, e1, b_jtb, y_gi L1 0 11 rfl rfl, Option.bind_some, i10, y_pi L1 0 11 rfl rfl, Option.bind_some, show jms I1 0 ((10 : Nat) : Int) 0 = I2 from hI2.symm, y_ck L1 0 11 rfl rfl, Option.bind_some, e199, Option.bind_some, v1, if_neg (show ¬ jw 1 = 0 by decide), F_ck F1, Option.bind_some, e22, Option.bind_some, y_gr L1 0 11 rfl rfl, Option.bind_some, u15, y_gr L1 0 11 rfl rfl, Option.bind_some, u7, y_gr L1 0 11 rfl rfl, Option.bind_some, u9, Option.bind_some, y_ai L1 (by omega) 6 24 rfl rfl rfl (by decide) (by decide), Option.bind_some, i36, Option.bind_some, y_ar L1 5 4 8 rfl rfl rfl fo0 (by omega), Option.bind_some, b1, y_ck L1 0 11 rfl rfl, Option.bind_some, e198, Option.bind_some, y_gr L1 0 11 rfl rfl, Option.bind_some, u4, Option.bind_some, y_ck L1 42 4 rfl rfl, Option.bind_some, c1, Option.bind_some]
    have L5 := C5.1.1
    have F5 := C5.1.2.1
    rcases alt with ⟨a1, a2⟩ | ⟨len, a1, a2, Z5⟩
    · refine fin (v := -1) (s' := S5) (Q' := R5) (hm' := H5) (I' := J5) (m' := m6) (by rw [ec, a1]; rfl) (by rw [em, a2]; rfl) q0 ?_ (Sm_trans S2 S5L) (by omega) (by omega)
      refine RelH_mk R2 hf4 hn S5L L5 ha F5 C5.2.1 (fun y _ => by rw [j0]) ⟨qj 1 (by decide) (by decide) (by decide), qj 5 (by decide) (by decide) (by decide), qj 7 (by decide) (by decide) (by decide), qj 8 (by decide) (by decide) (by decide), qj 9 (by decide) (by decide) (by decide), qj 86 (by decide) (by decide) (by decide), qj 92 (by decide) (by decide) (by decide)⟩ (fun x hx => qx x (by omega) (by omega) (by omega)) (fun g g0 gf => ⟨fun x xa xb => by rw [qx x (by omega) (by omega) (by omega)], fun i _ _ => by rw [qx 89 (by decide) (by decide) (by decide)], fun x xa xb k _ _ => by rw [qx x (by omega) (by omega) (by omega)], fun k j _ _ _ _ => by rw [qx 99 (by decide) (by decide) (by decide), qx 100 (by decide) (by decide) (by decide)]; exact ⟨rfl, rfl⟩, fun k j _ _ _ _ => by rw [qx 101 (by decide) (by decide) (by decide)]⟩) (Or.inl ⟨?_, by rw [qj 12 (by decide) (by decide) (by decide)]; exact hf4⟩)
      rw [j0]
      exact R2.2.2.2.2.2.1.1.trans hf4
    · obtain ⟨-, zB, ⟨zl1, zl2⟩, zW, -, zO, zk, z8⟩ := id Z5
      have hd6 := hbts
      obtain ⟨p0, p1, p2, p3, p4, p5, p6⟩ := hd6
      have b112 : ∀ i : Int, i < 7 → m6 112 i = m5 112 i := fun i hi => by rw [X5.2.2.2 i hi, jms_o (by decide)]
      have ok := parse_okT (w := w) (h := h) (rt := m9 86 fo) (T := T) (cod := 0) (m := m6) (len := len) (K := J5 (a + 1)) (P := J5 (a + 2)) zB.2.2.1.2.2 (by omega) T1 T2 ⟨by decide, by decide⟩ swh.1 swh.2 rtb ⟨by rw [b112 0 (by decide)]; exact p0, by rw [b112 1 (by decide)]; exact p1, by rw [b112 2 (by decide)]; exact p2, by rw [b112 3 (by decide)]; exact p3, by rw [b112 4 (by decide)]; exact p4, by rw [b112 5 (by decide)]; exact p5, by rw [b112 6 (by decide)]; exact p6⟩ zW (fun n hn => OrdC_ok zO n hn)
      have kx : ∀ x : Int, 0 ≤ x → x < T → J5 (a + 8) x % 2 = m6 134 x % 2 := fun x x0 x1 => by
        obtain ⟨k, k0, k1, kp⟩ := pig (n := T) (f := J5 (a + 2)) (fun k k0 k1 => (zO.2 k k0 k1).2.1) (fun j k j0 jk k1 => (zO.2 k (by omega) k1).2.2.1 j j0 jk) x0 x1
        have := zk k k0 k1
        rw [kp] at this
        exact this
      obtain ⟨s', Q', hm', I', m7, d1, d2, d3, d4, d5, d6, d7⟩ := cut_land (T := T) R2 hf4 t2 hn ha S5L L5 zB C5.2.1 zl1 (by omega) (by omega) T2 kx j0 q0 qj qx ok (by omega)
      refine fin (v := f) (s' := s') (Q' := Q') (hm' := hm') (I' := I') (m' := m7) ?_ ?_ d3 d4 (Sm_trans S2 (Sm_trans S5L (Sm_mono d5 (fun o ho => by unfold PL at ho; unfold PF; omega)))) (by omega) (by omega)
      · rw [ec, a1, Option.bind_some]
        show ((jck (hh S5 R5 J5) 0 11).bind fun u85 => ((jd_197 0 (some a) (hh S5 R5 J5)).bind fun q87 => some (Sum.inl q87.1, q87.2))) = _
        rw [y_ck L5 0 11 rfl rfl, Option.bind_some, d1, Option.bind_some]
      · rw [em, a2, Option.bind_some]
        exact d2
  · -- it can't
    have v0 : v = 0 := by
      rcases alt1 with ⟨-, e⟩ | ⟨e, -⟩
      · exact absurd e can
      · exact e
    refine fin (v := -1) (s' := s1) (Q' := Q1) (hm' := hm1) (I' := I2) (m' := m4) ?_ ?_ m40 R2 S2 (by omega) (by omega)
    · unfold jd_166
      rw [y_ck L 0 11 rfl rfl, Option.bind_some, e1, b_jtb, y_gi L1 0 11 rfl rfl, Option.bind_some, i10, y_pi L1 0 11 rfl rfl, Option.bind_some, show jms I1 0 ((10 : Nat) : Int) 0 = I2 from hI2.symm, y_ck L1 0 11 rfl rfl, Option.bind_some, e199, Option.bind_some, v0, if_pos (show jw 0 = 0 by decide)]
    · have y0 : jw (m 76 12) = m 76 12 := n_jw (by omega) (by omega)
      unfold jd_330
      rw [y0, if_neg (by omega), Option.bind_some, if_pos (show jw (jms m 76 0 0 76 0) ≤ 0 by rw [jms_e]; decide), Option.bind_some, ← hm4, m86, Option.bind_some, e52, Option.bind_some]
      show (if jw u = 0 then jd_330_b156 m4 else (if jw T ≤ 12 then _ else jd_330_b156 m4)) = _
      rcases alt2 with ⟨e, e0, eq⟩ | ⟨e, -⟩
      · rw [e, if_neg (show ¬ jw 1 = 0 by decide), n_jw (z := T) (by omega) (by omega), if_neg (fun t => can ⟨e0, t, eq⟩)]
        rfl
      · rw [e, if_pos (show jw 0 = 0 by decide)]
        rfl
end CutAll
