/-! cutting: a film begun, both sides -/
section CuOpen
variable {s : hS} {Q : hQ} {hm : hO} {I m : jM} {a b : Nat} {f fo w h T : Int}
theorem cu_open (L : Lay s Q hm) (F : FilmAt s Q hm a f) (f0 : 0 ≤ f) (f8 : f < 8) (hb : ∀ b, Q 43 0 = some b → 153 ≤ b ∧ Ce s hm b 1 4000 560) (c5 : ∀ k : Int, 0 ≤ k → k < 8 → I 3 k = m 82 k ∧ stOk k (m 82 k)) (fo0 : 0 ≤ fo) (fof : fo < f) (Fo : FilmAt s Q hm b fo) (Co : FilmC s Q I m b fo) (e84 : m 84 fo = w) (e85 : m 85 fo = h) (T1 : 1 ≤ T) (T2 : T ≤ 12) (m32 : m 76 32 = 0) (m33 : m 76 33 = w) (m34 : m 76 34 = h) (h6 : s.1 + 40 ≤ 1000000) : ∃ (S : hS) (R : hQ) (H : hO) (J m' : jM), ((jd_22 a (hh s Q I)).bind fun h19 => jd_68 42 (some a) (some b) T (some 3) h19) = some (hh S R J) ∧ jd_295 (m 86 fo) T m = some m' ∧ CuI S R H J (jms m' 76 91 0) a f w h T 0 7 ∧ (m' 112 0 = 77 ∧ m' 112 1 = 70 ∧ m' 112 2 = jwb 0 ∧ m' 112 3 = jwb (jdiv w 8) ∧ m' 112 4 = jwb (jdiv h 8) ∧ m' 112 5 = jwb (m 86 fo) ∧ m' 112 6 = jwb T) ∧ Sm (PD f) s Q hm I S R H J ∧ MG m m' ∧ (s.1 ≤ S.1 ∧ S.1 + (bzR s Q a + nW Q) ≤ s.1 + (bzR S R a + nW R) + 24 ∧ S.2.1 + (24067 * bzR s Q a + 4000 * nW Q) ≤ s.2.1 + (24067 * bzR S R a + 4000 * nW R) + 10404) := by
  have a153 := F.1
  have b153 := Fo.1
  have s153 := L.1
  obtain ⟨⟨u0, u1, u2, u3, u4, u6⟩, ⟨sw, sh, v1, v2, -, -⟩, -, V, FK⟩ := id Co
  rw [e84] at u1 sw
  rw [e85] at u2 sh
  have n1 : 1 ≤ m 87 fo := V.1
  obtain ⟨pc, qpc, Xp⟩ := (FK 0 (Int.le_refl _) (by omega)).2.2.2.2.2.2.2.2.1
  have P0 := Fo.2.2.2.2 0 (Int.le_refl _) (by decide) pc qpc
  rw [e84, e85] at Xp
  have pc153 := P0.1
  have e22 := c_22 (I := I) F
  obtain ⟨I0, hI0⟩ : ∃ z, z = ims (jms I a 6 0) (a + 8) (fun x => if 0 ≤ x ∧ x < 12 then 0 else I (a + 8) x) := ⟨_, rfl⟩
  rw [← hI0] at e22
  obtain ⟨Ia, hIa⟩ : ∃ z, z = jms I0 42 5 0 := ⟨_, rfl⟩
  obtain ⟨Qa, hQa⟩ : ∃ z, z = rms Q 42 ((6 : Nat) : Int) (some 3) := ⟨_, rfl⟩
  have o0 : ∀ x : Nat, x ≠ a → x ≠ a + 8 → I0 x = I x := fun x x1 x2 => by rw [hI0, ims_o x2, jms_o x1]
  have oa : ∀ x : Nat, x ≠ a → x ≠ a + 8 → x ≠ 42 → Ia x = I x := fun x x1 x2 x3 => by rw [hIa, jms_o x3, o0 x x1 x2]
  have qa : ∀ x : Nat, x ≠ 42 → Qa x = Q x := fun x hx => by rw [hQa, rms_o hx]
  have ca := F.2.1
  have La : Lay s Qa hm := by rw [hQa]; exact Lay_rms L rfl
  have Fa : FilmAt s Qa hm a f := FilmAt_q (fun x hx => qa x (by omega)) F
  have Foa : FilmAt s Qa hm b fo := FilmAt_q (fun x hx => qa x (by omega)) Fo
  have Pa : PicAt s Qa hm pc (200 + 12 * fo + 0) := ⟨P0.1, P0.2.1, P0.2.2.1, by rw [qa pc (by omega)]; exact P0.2.2.2⟩
  have nb : fo ≠ f := by omega
  have ne : ∀ i j : Nat, i < 13 → j < 13 → b + j ≠ a + i := fun i j hi hj => fl_ne F Fo nb hi hj
  have Sa : Sm (PD f) s Q hm I s Qa hm Ia := ⟨Nat.le_refl _, fun x xs hx => by
    have x42 : x ≠ 42 := fun e => by
      rw [e, Lo L rfl] at hx
      unfold PD at hx
      omega
    have nf : ∀ j : Nat, j < 13 → x ≠ a + j := fun j hj e => by
      rw [e, (ca j hj).2.2.2] at hx
      unfold PD at hx
      omega
    exact ⟨rfl, rfl, qa x x42, oa x (nf 0 (by decide)) (nf 8 (by decide)) x42, rfl⟩⟩
  have pcn : ∀ i : Nat, i < 13 → pc ≠ a + i := fun i hi e => by
    have := P0.2.1.2.2.2
    rw [e, (ca i hi).2.2.2] at this
    omega
  have ipc : Ia pc = I pc := oa pc (pcn 0 (by decide)) (pcn 8 (by decide)) (by omega)
  have ib : Ia b = I b := oa b (ne 0 0 (by decide) (by decide)) (ne 8 0 (by decide) (by decide)) (by omega)
  -- head
  have B0 : FBm s Qa hm Ia (jms m 76 47 0) a f 0 := ⟨Fa, ⟨f0, f8⟩, ⟨by rw [hIa, jms_o (by omega), hI0, ims_o (by omega), jms_e], Int.le_refl _, jms_e⟩, Or.inl rfl⟩
  obtain ⟨s1, Q1, hm1, I1, m1, e26, e295, L1, B1, X1, g1, mb, hbts⟩ := head_m (rt := m 86 fo) (cnt := T) La B0 (by generalize bzR s Qa a = z1; omega) Pa (by omega) (by rw [ipc]; exact Xp.1) (by rw [ipc]; exact Xp.2.1) m32 m33 m34
  have F1 := B1.1
  have S1 := BF_Sm Fa X1
  have q43 : Q1 43 = Q 43 := by rw [X1.1 43 (by omega) (by omega), qa 43 (by decide)]
  have hb1 : ∀ b, Q1 43 0 = some b → 153 ≤ b ∧ Ce s1 hm1 b 1 4000 560 := fun y hy => by
    rw [q43] at hy
    obtain ⟨y1, y2⟩ := hb y hy
    obtain ⟨t1, t2, t3⟩ := X1.2.2.1 y y2.1
    exact ⟨y1, Nat.lt_of_lt_of_le y2.1 X1.2.2.2.2.2.1, t2.trans y2.2.1, t3.trans y2.2.2.1, t1.trans y2.2.2.2⟩
  have mg1 : MG m m1 := ⟨fun c c1 c2 c3 => mb.1 c c1 (by omega), fun z hz => mb.2.1 z (by omega)⟩
  have g1' : s1.1 ≤ s.1 + 2 ∧ s1.2.1 ≤ s.2.1 + 48134 := by
    have h1 := bzR_2 (s := s1) (Q := Q1) (a := a)
    have h2 := X1.2.2.2.2.2.2.1
    have h3 := X1.2.2.2.2.2.2.2
    generalize bzR s Qa a = z1 at *
    generalize bzR s1 Q1 a = z2 at *
    omega
  obtain ⟨Fo1, -, -, -⟩ := FilmAt_fr1 S1 (fun k _ _ => by unfold PG; omega) (by unfold PG; omega) (by unfold PG; omega) Foa
  have cb0 := Fo.2.1 0 (by decide)
  have ib1 : I1 b = I b := by
    have := (Ce_fr S1 (Foa.2.1 0 (by decide)) (by unfold PG; omega)).2.2
    rw [show I1 b = Ia b from this, ib]
  -- pictures made ready
  obtain ⟨s2, Q2, hm2, I2, e28, L2, F2, S2, kp, -, rdy, g2, g2'⟩ := c_28 (w := w) (h := h) (c := 0) (T := T) (I := I1) f0 f8 (Int.le_refl _) (by omega) T2 L1 F1 (by omega)
  have S2' : Sm (PG f) s1 Q1 hm1 I1 s2 Q2 hm2 I2 := Sm_mono S2 (fun o ho => by unfold PG at ho; omega)
  have hb2 : ∀ b, Q2 43 0 = some b → 153 ≤ b ∧ Ce s2 hm2 b 1 4000 560 := fun y hy => by
    have := (Lay_fr (a := 43) L1 S2 (by decide) (by omega)).1
    rw [this] at hy
    obtain ⟨y1, y2⟩ := hb1 y hy
    exact ⟨y1, (Ce_fr S2 y2 (by omega)).1⟩
  have ca1 := F1.2.1
  have Sall : Sm (PD f) s Q hm I s2 Q2 hm2 I2 := Sm_trans Sa (Sm_mono (Sm_trans S1 S2') (fun o ho => by unfold PD at ho; unfold PG; omega))
  have gr : s.1 ≤ s2.1 ∧ s2.1 + (bzR s Q a + nW Q) ≤ s.1 + (bzR s2 Q2 a + nW Q2) + 24 ∧ s2.2.1 + (24067 * bzR s Q a + 4000 * nW Q) ≤ s.2.1 + (24067 * bzR s2 Q2 a + 4000 * nW Q2) + 10404 := by
    obtain ⟨-, -, -, -, tq⟩ := kp a (ca1 0 (by decide)).1 (ca1 0 (by decide)).2.2.2
    have bz2 : bzR s2 Q2 a = bzR s1 Q1 a := bzR_c (by rw [tq (by omega)]) (fun c hc => by
      obtain ⟨-, y, -, hy⟩ := F1.2.2.2.1 c hc
      rw [(Ce_fr S2 hy (by omega)).1.2.2.1, hy.2.2.1])
    have bz0 : bzR s Qa a = bzR s Q a := bzR_c (by rw [qa a (by omega)]) (fun c _ => rfl)
    have nw2 : nW Q2 = nW Q := by
      unfold nW
      rw [(Lay_fr (a := 43) L1 S2 (by decide) (by omega)).1, q43]
    rw [bz2, nw2]
    have h0 := X1.2.2.2.2.2.1
    have h2 := X1.2.2.2.2.2.2.1
    have h3 := X1.2.2.2.2.2.2.2
    have h4 := S2.1
    rw [bz0] at h2 h3
    generalize bzR s Q a = z1 at *
    generalize bzR s1 Q1 a = z2 at *
    generalize nW Q = y1 at *
    omega
  obtain ⟨m2, hm2'⟩ : ∃ m2, m2 = jms m1 76 91 0 := ⟨_, rfl⟩
  have o2 : ∀ y : Nat, y ≠ 76 → m2 y = m1 y := fun y hy => by rw [hm2', jms_o hy]
  have z2 : ∀ y : Int, y ≠ 91 → m2 76 y = m1 76 y := fun y hy => by rw [hm2', jms_i hy]
  have q42 : Q2 42 = Qa 42 := by rw [(Lay_fr (a := 42) L1 S2 (by decide) (by omega)).1, X1.1 42 (by omega) (by omega)]
  have i42 : I2 42 = Ia 42 := by rw [(Lay_fr (a := 42) L1 S2 (by decide) (by omega)).2, X1.2.2.2.1 42 (by omega) (by omega) (by rw [Lo La rfl]; omega)]
  have i3 : I2 3 = I 3 := by rw [(Lay_fr (a := 3) L1 S2 (by decide) (by omega)).2, X1.2.2.2.1 3 (by omega) (by omega) (by rw [Lo La rfl]; omega), oa 3 (by omega) (by omega) (by decide)]
  have e82 : m2 82 = m 82 := by rw [o2 82 (by decide), mg1.1 82 (by decide) (by decide) (by decide)]
  have i8 : ∀ x : Int, 0 ≤ x → x < 12 → I2 (a + 8) x = 0 := fun x x0 x1 => by
    have c8 := ca1 8 (by decide)
    rw [(kp (a + 8) c8.1 c8.2.2.2).1, X1.2.2.2.1 (a + 8) (ca 8 (by decide)).1 (by omega) (by rw [(ca 8 (by decide)).2.2.2]; omega), hIa, jms_o (by omega), hI0, ims_e, if_pos ⟨x0, x1⟩]
  refine ⟨s2, Q2, hm2, I2, m1, ?_, e295, ?_, hbts, Sall, mg1, gr⟩
  · have t15 : Qa b ((15 : Nat) : Int) = some (b + 9) := F_q Foa 8 15 rfl rfl
    have t9 : Qa (b + 9) 0 = some pc := by rw [qa (b + 9) (by omega)]; exact qpc
    have r3 : Ia b ((3 : Nat) : Int) = m 86 fo := by rw [ib]; exact u3
    have r1 : I1 b ((1 : Nat) : Int) = w := by rw [ib1]; exact u1
    have r2 : I1 b ((2 : Nat) : Int) = h := by rw [ib1]; exact u2
    rw [e22, Option.bind_some]
    unfold jd_68
    rw [y_pi L 42 4 rfl rfl, Option.bind_some, show jms I0 42 ((5 : Nat) : Int) 0 = Ia from hIa.symm, y_pr L 42 4 rfl rfl, Option.bind_some, ← hQa, Option.bind_some, F_gr Foa, Option.bind_some, t15, Option.bind_some, F_ar Foa (Int.le_refl _) (by decide), Option.bind_some, t9, Option.bind_some, F_gi Foa, Option.bind_some, r3, Option.bind_some, F_ck Fa, Option.bind_some, e26, Option.bind_some, Option.bind_some, F_gi Fo1, Option.bind_some, r1, Option.bind_some, F_gi Fo1, Option.bind_some, r2, Option.bind_some, F_ck F1, Option.bind_some, e28, Option.bind_some]
  · rw [← hm2']
    refine ⟨⟨⟨L2, F2, f0, f8⟩, hb2, ⟨by rw [z2 32 (by decide), mg1.2 32 (by decide)]; exact m32, by rw [z2 33 (by decide), mg1.2 33 (by decide)]; exact m33, by rw [z2 34 (by decide), mg1.2 34 (by decide)]; exact m34, sw, sh⟩, ⟨T1, T2, by rw [q42, hQa]; exact rms_e⟩, fun k k0 k1 => by rw [i3, e82]; exact c5 k k0 k1, fun j j0 j1 => rdy j j0 j1⟩, ?_, ⟨by decide, by decide⟩, ⟨fun _ => 7, fun _ => 0, fun _ => 0, rfl, rfl, fun q q0 q1 => absurd q1 (by omega)⟩, ⟨Int.le_refl _, by omega, by rw [i42, hIa, jms_e], by rw [hm2', jms_e]⟩, OrdC_0, fun k k0 k1 => absurd k1 (by omega), i8⟩
    obtain ⟨-, ff, ⟨y1, y2, y3⟩, y4⟩ := B1
    obtain ⟨t1, -, -, -, t5⟩ := kp a (ca1 0 (by decide)).1 (ca1 0 (by decide)).2.2.2
    refine ⟨F2, ff, ⟨by rw [t1]; exact y1, y2, by rw [z2 47 (by decide)]; exact y3⟩, ?_⟩
    rcases y4 with y4 | ⟨c, y5, y6, y7⟩
    · exact Or.inl y4
    · obtain ⟨c153, y, -, hy⟩ := F1.2.2.2.1 c y5
      obtain ⟨w1, -, w3⟩ := Ce_fr S2 hy (by omega)
      refine Or.inr ⟨c, by rw [t5 (by omega)]; exact y5, by rw [w1.2.2.1, ← hy.2.2.1]; exact y6, ?_⟩
      rw [w3, o2 112 (by decide)]
      exact y7
end CuOpen
