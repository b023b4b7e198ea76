/-! making: a film begun, both sides -/
section MkOpen
variable {s : hS} {Q : hQ} {hm : hO} {I m : jM} {a : Nat} {f w h T cod d : Int} {G : Int → Int} {N : Nat}
def MkP (s : hS) (Q : hQ) (hm : hO) (I m : jM) (a : Nat) (f w h T cod : Int) : Prop := (Lay s Q hm ∧ FilmAt s Q hm a f ∧ 0 ≤ f ∧ f < 8) ∧ (∀ b, Q 43 0 = some b → 153 ≤ b ∧ Ce s hm b 1 4000 560) ∧ (m 76 32 = cod ∧ m 76 33 = w ∧ m 76 34 = h ∧ isSd w ∧ isSd h) ∧ (1 ≤ T ∧ T ≤ 12 ∧ I 42 5 = T ∧ Q 42 6 = some 3) ∧ (∀ k : Int, 0 ≤ k → k < 8 → I 3 k = m 82 k ∧ stOk k (m 82 k)) ∧ (∀ i : Int, 0 ≤ i → i < T → ∃ src, Q 68 i = some src ∧ PicAt s Q hm src (100 + i) ∧ Pix I src w h (fun j => m 121 (864 * i + j)))
theorem MkP_fr {s' : hS} {Q' : hQ} {hm' : hO} {I' m' : jM} (C : MkP s Q hm I m a f w h T cod) (S : Sm (PG f) s Q hm I s' Q' hm' I') (L' : Lay s' Q' hm') (F' : FilmAt s' Q' hm' a f) (hb' : ∀ b, Q' 43 0 = some b → 153 ≤ b ∧ Ce s' hm' b 1 4000 560) (M : MG m m') : MkP s' Q' hm' I' m' a f w h T cod := by
  obtain ⟨⟨L, F, f0, f8⟩, -, ⟨m32, m33, m34, sw, sh⟩, ⟨T1, T2, i5, q6⟩, c5, c6⟩ := C
  have q42 := Lay_fr (a := 42) L S (by decide) (by unfold PG; omega)
  have q3 := Lay_fr (a := 3) L S (by decide) (by unfold PG; omega)
  have q68 := Lay_fr (a := 68) L S (by decide) (by unfold PG; omega)
  have e82 : m' 82 = m 82 := M.1 82 (by decide) (by decide) (by decide)
  have e121 : m' 121 = m 121 := M.1 121 (by decide) (by decide) (by decide)
  refine ⟨⟨L', F', f0, f8⟩, hb', ⟨by rw [M.2 32 (by decide)]; exact m32, by rw [M.2 33 (by decide)]; exact m33, by rw [M.2 34 (by decide)]; exact m34, sw, sh⟩, ⟨T1, T2, by rw [q42.2]; exact i5, by rw [q42.1]; exact q6⟩, fun k k0 k1 => by rw [q3.2, e82]; exact c5 k k0 k1, fun i i0 i1 => ?_⟩
  obtain ⟨src, h1, h2, h3⟩ := c6 i i0 i1
  obtain ⟨P', j1, j2⟩ := PicAt_fr S h2 (by unfold PG; omega)
  exact ⟨src, by rw [q68.1]; exact h1, P', by rw [e121]; exact Pix_fr h3 j1 j2⟩
theorem gSt_in {j : Int} (j0 : 0 ≤ j) : ∀ t : Nat, j < gSt G t → ∃ i : Nat, i < t ∧ gSt G i ≤ j ∧ j < gSt G i + G (gSt G i)
  | 0, h => absurd h (by unfold gSt; omega)
  | t + 1, h => by
    by_cases c : j < gSt G t
    · obtain ⟨i, h1, h2⟩ := gSt_in j0 t c
      exact ⟨i, by omega, h2⟩
    · exact ⟨t, by omega, by omega, h⟩
theorem Laid_k (F : FilmAt s Q hm a f) (T2 : T ≤ 12) (hG : GSz G T) (W : Wk G T N) (T0 : 0 ≤ T) (d0 : 0 ≤ d) (d1 : d ≤ 1000) (LA : Laid I a G d N) {j : Int} (j0 : 0 ≤ j) (j1 : j < T) : 0 ≤ I (a + 1) j ∧ I (a + 1) j ≤ 2 := by
  obtain ⟨i, iN, h1, h2⟩ := gSt_in j0 N (by rw [W.2]; exact j1)
  have gb := gSt_b T0 hG i (fun y hy => W.1 y (by omega))
  obtain ⟨n1, n2⟩ := hG (gSt G i) (by omega) (W.1 i iN)
  obtain ⟨-, -, LGk, -⟩ := lay_c (I := I) (p := gSt G i) (g := 0) (n := G (gSt G i)) (d := d) F (by omega) (by omega) n1 d0 d1
  have := (LA i iN (j - gSt G i) (by omega) (by omega)).1
  rw [show gSt G i + (j - gSt G i) = j by omega] at this
  obtain ⟨k1, k2, -, -⟩ := LG_k LGk (j := j - gSt G i) (by omega) (by omega)
  rw [this]
  exact ⟨k1, k2⟩
theorem mk_open (C : MkP s Q hm I m a f w h T cod) (h6 : s.1 + 40 ≤ 1000000) (hI : ∀ p : Int, 0 ≤ p → p < T → I 69 p = G p) (hG : GSz G T) (W : Wk G T N) (cc : cod = 0 ∨ cod = 1 ∨ cod = 2) (hd : d = if cod = 0 then m 82 2 else 0) : ∃ (S : hS) (R : hQ) (H : hO) (J m' : jM), jd_65 42 (some a) cod (hh s Q I) = (if (jw cod) = 0 then ((jck (hh S R J) 42 4).bind fun u85 => ((jd_66 42 (some a) (hh S R J)).bind fun q87 => jd_65_b143 42 q87.1 q87.2)) else ((jck (hh S R J) 42 4).bind fun u91 => ((jd_67 42 (some a) cod (hh S R J)).bind fun q93 => jd_65_b143 42 q93.1 q93.2))) ∧ jd_295 (m 82 0) T m = some m' ∧ MkC S R H J m' a f w h T cod ∧ Laid J a G d N ∧ FBm S R H J m' a f 7 ∧ HBy (m' 112) (J (a + 1)) (J (a + 2)) cod 0 7 ∧ (m' 112 0 = 77 ∧ m' 112 1 = 70 ∧ m' 112 2 = jwb cod ∧ m' 112 3 = jwb (jdiv w 8) ∧ m' 112 4 = jwb (jdiv h 8) ∧ m' 112 5 = jwb (m 82 0) ∧ m' 112 6 = jwb T) ∧ Sm (PG f) s Q hm I S R H J ∧ (MG m m' ∧ m' 76 82 = m 76 82) ∧ (s.1 ≤ S.1 ∧ S.1 + (bzR s Q a + nW Q) ≤ s.1 + (bzR S R a + nW R) + 24 ∧ S.2.1 + (24067 * bzR s Q a + 4000 * nW Q) ≤ s.2.1 + (24067 * bzR S R a + 4000 * nW R) + 10404) ∧ (∀ x : Int, 0 ≤ x → x < 12 → J (a + 8) x = 0) := by
  obtain ⟨⟨L, F, f0, f8⟩, hb, ⟨m32, m33, m34, sw, sh⟩, ⟨T1, T2, i5, q6⟩, c5, c6⟩ := id C
  have a153 := F.1
  have so : ∀ {i : Int}, 0 ≤ i → i < 8 → i ≠ 5 → (jxv 1).getD i.toNat 0 ≤ m 82 i ∧ m 82 i ≤ (jxv 2).getD i.toNat 0 := fun {i} i0 i1 i2 => by
    rcases (c5 i i0 i1).2 with ⟨e, -⟩ | e
    · exact absurd e i2
    · exact e
  have so2 : 0 ≤ m 82 2 ∧ m 82 2 ≤ 2 := so (by decide) (by decide) (by decide)
  have db : 0 ≤ d ∧ d ≤ 1000 := by
    rw [hd]
    by_cases c : cod = 0
    · rw [if_pos c]; omega
    · rw [if_neg c]; omega
  -- emptied
  have e22 := c_22 (I := I) F
  obtain ⟨I0, hI0⟩ : ∃ z, z = ims (jms I a 6 0) (a + 8) (fun x => if 0 ≤ x ∧ x < 12 then 0 else I (a + 8) x) := ⟨_, rfl⟩
  rw [← hI0] at e22
  have o0 : ∀ x : Nat, x ≠ a → x ≠ a + 8 → I0 x = I x := fun x x1 x2 => by rw [hI0, ims_o x2, jms_o x1]
  have ca := F.2.1
  have S0 : Sm (PG f) s Q hm I s Q hm I0 := Sm_I (fun x _ hx => o0 x (fun e => by
    rw [e, show hm a = 500 + f from (ca 0 (by decide)).2.2.2] at hx
    exact hx.2.2.1 rfl) (fun e => by
    rw [e, (ca 8 (by decide)).2.2.2] at hx
    exact hx.2.2.1 rfl))
  have C0 := MkP_fr (m' := m) C S0 L F hb MG_refl
  obtain ⟨-, -, -, ⟨-, -, j5, j6⟩, d5, d6⟩ := id C0
  obtain ⟨src, r68, P0, ⟨w0, h0, -, -, -⟩⟩ := d6 0 (by decide) (by omega)
  -- head
  have B0 : FBm s Q hm I0 (jms m 76 47 0) a f 0 := ⟨F, ⟨f0, f8⟩, ⟨by rw [hI0, ims_o (by omega), jms_e], Int.le_refl _, jms_e⟩, Or.inl rfl⟩
  obtain ⟨s1, Q1, hm1, I1, m1, e26, e295, L1, B1, X1, g1, mb, hbts⟩ := head_m (rt := m 82 0) (cnt := T) L B0 (by generalize bzR s Q a = z1; omega) P0 (by omega) w0 h0 m32 m33 m34
  have F1 := B1.1
  have S1 := BF_Sm F X1
  have q43 : Q1 43 = Q 43 := X1.1 43 (by have := L.1; omega) (by omega)
  have hb1 : ∀ b, Q1 43 0 = some b → 153 ≤ b ∧ Ce s1 hm1 b 1 4000 560 := fun y hy => by
    rw [q43] at hy
    obtain ⟨y1, y2⟩ := hb y hy
    obtain ⟨t1, t2, t3⟩ := X1.2.2.1 y y2.1
    exact ⟨y1, Nat.lt_of_lt_of_le y2.1 X1.2.2.2.2.2.1, t2.trans y2.2.1, t3.trans y2.2.2.1, t1.trans y2.2.2.2⟩
  have mg1 : MG m m1 := ⟨fun c c1 c2 c3 => mb.1 c c1 (by omega), fun z hz => mb.2.1 z (by omega)⟩
  have C1 := MkP_fr C0 S1 L1 F1 hb1 mg1
  obtain ⟨-, -, -, ⟨-, -, k5, k6⟩, k7, k8⟩ := id C1
  obtain ⟨src1, r68', P1, ⟨w1, h1, -, -, -⟩⟩ := k8 0 (by decide) (by omega)
  have g1' : s1.1 ≤ s.1 + 2 ∧ s1.2.1 ≤ s.2.1 + 48134 := by
    have h1 := bzR_2 (s := s1) (Q := Q1) (a := a)
    have h2 := X1.2.2.2.2.2.2.1
    have h3 := X1.2.2.2.2.2.2.2
    generalize bzR s Q a = z1 at *
    generalize bzR s1 Q1 a = z2 at *
    omega
  -- pictures made ready
  obtain ⟨s2, Q2, hm2, I2, e28, L2, F2, S2, kp, -, rdy, g2, g2'⟩ := c_28 (w := w) (h := h) (c := 0) (T := T) (I := I1) f0 f8 (Int.le_refl _) (by omega) T2 L1 F1 (by omega)
  have S2' : Sm (PG f) s1 Q1 hm1 I1 s2 Q2 hm2 I2 := Sm_mono S2 (fun o ho => by unfold PG at ho; omega)
  have hb2 : ∀ b, Q2 43 0 = some b → 153 ≤ b ∧ Ce s2 hm2 b 1 4000 560 := fun y hy => by
    have := (Lay_fr (a := 43) L1 S2 (by decide) (by omega)).1
    rw [this] at hy
    obtain ⟨y1, y2⟩ := hb1 y hy
    exact ⟨y1, (Ce_fr S2 y2 (by omega)).1⟩
  have C2 := MkP_fr C1 S2' L2 F2 hb2 (MG_refl (m := m1))
  obtain ⟨-, -, -, ⟨-, -, n5, n6⟩, n7, n8⟩ := id C2
  have ca1 := F1.2.1
  have h69 : ∀ p : Int, 0 ≤ p → p < T → I2 69 p = G p := fun p p0 p1 => by
    rw [(Lay_fr (a := 69) L1 S2' (by decide) (by unfold PG; omega)).2, (Lay_fr (a := 69) L S1 (by decide) (by unfold PG; omega)).2, o0 69 (by omega) (by omega)]
    exact hI p p0 p1
  -- groups laid
  obtain ⟨I3, e73, LA, o3⟩ := walk_c (cod := cod) (d := d) L2 F2 (by omega) (by omega) T2 n5 h69 hG db.1 db.2 W
  have S3 : Sm (PG f) s2 Q2 hm2 I2 s2 Q2 hm2 I3 := Sm_I (fun x _ hx => o3 x (fun e => by
    rw [e, (F2.2.1 1 (by decide)).2.2.2] at hx
    exact hx.2.2.1 rfl) (fun e => by
    rw [e, (F2.2.1 2 (by decide)).2.2.2] at hx
    exact hx.2.2.1 rfl))
  have C3 := MkP_fr C2 S3 L2 F2 hb2 (MG_refl (m := m1))
  have gr : s.1 ≤ s2.1 ∧ s2.1 + (bzR s Q a + nW Q) ≤ s.1 + (bzR s2 Q2 a + nW Q2) + 24 ∧ s2.2.1 + (24067 * bzR s Q a + 4000 * nW Q) ≤ s.2.1 + (24067 * bzR s2 Q2 a + 4000 * nW Q2) + 10404 := by
    obtain ⟨-, -, -, -, tq⟩ := kp a (ca1 0 (by decide)).1 (ca1 0 (by decide)).2.2.2
    have bz2 : bzR s2 Q2 a = bzR s1 Q1 a := bzR_c (by rw [tq (by omega)]) (fun c hc => by
      obtain ⟨-, y, -, hy⟩ := F1.2.2.2.1 c hc
      rw [(Ce_fr S2 hy (by omega)).1.2.2.1, hy.2.2.1])
    have nw2 : nW Q2 = nW Q := by
      unfold nW
      rw [(Lay_fr (a := 43) L1 S2 (by decide) (by omega)).1, q43]
    rw [bz2, nw2]
    have h0 := X1.2.2.2.2.2.1
    have h2 := X1.2.2.2.2.2.2.1
    have h3 := X1.2.2.2.2.2.2.2
    have h4 := S2.1
    generalize bzR s Q a = z1 at *
    generalize bzR s1 Q1 a = z2 at *
    generalize nW Q = y1 at *
    omega
  refine ⟨s2, Q2, hm2, I3, m1, ?_, e295, ⟨C3.1, C3.2.1, C3.2.2.1, C3.2.2.2.1, C3.2.2.2.2.1, C3.2.2.2.2.2, fun j j0 j1 => ?_, fun j j0 j1 => Laid_k F2 T2 hG W (by omega) db.1 db.2 LA j0 j1⟩, LA, ?_, ⟨fun _ => 7, fun _ => 0, fun _ => 0, rfl, rfl, fun q q0 q1 => absurd q1 (by omega)⟩, hbts, Sm_trans S0 (Sm_trans S1 (Sm_trans S2' S3)), ⟨mg1, mb.2.1 82 (by decide)⟩, gr, fun x x0 x1 => ?_⟩
  · have t4 : Q 42 ((4 : Nat) : Int) = some 68 := Lq L rfl
    have t4' : Q1 42 ((4 : Nat) : Int) = some 68 := Lq L1 rfl
    have t6 : Q 42 ((6 : Nat) : Int) = some 3 := q6
    have t6' : Q2 42 ((6 : Nat) : Int) = some 3 := n6
    have u5 : I0 42 ((5 : Nat) : Int) = T := j5
    have u5' : I1 42 ((5 : Nat) : Int) = T := k5
    have v3 : I0 3 0 = m 82 0 := (d5 0 (by decide) (by decide)).1
    have v32 : I2 3 2 = m 82 2 := by
      have := (n7 2 (by decide) (by decide)).1
      rw [mg1.1 82 (by decide) (by decide) (by decide)] at this
      exact this
    have w1' : I1 src1 ((0 : Nat) : Int) = w := w1
    have h1' : I1 src1 ((1 : Nat) : Int) = h := h1
    have b66 : jd_65_b66 42 (some a) cod d (hh s2 Q2 I2) = (if (jw cod) = 0 then ((jck (hh s2 Q2 I3) 42 4).bind fun u85 => ((jd_66 42 (some a) (hh s2 Q2 I3)).bind fun q87 => jd_65_b143 42 q87.1 q87.2)) else ((jck (hh s2 Q2 I3) 42 4).bind fun u91 => ((jd_67 42 (some a) cod (hh s2 Q2 I3)).bind fun q93 => jd_65_b143 42 q93.1 q93.2))) := by
      unfold jd_65_b66
      rw [e73, Option.bind_some]
    rw [← b66]
    unfold jd_65
    rw [Option.bind_some, F_ck F, Option.bind_some, e22, Option.bind_some, y_gr L 42 4 rfl rfl, Option.bind_some, t4, Option.bind_some, y_ar L 68 6 12 rfl rfl rfl (by decide) (by decide), Option.bind_some, r68, y_gr L 42 4 rfl rfl, Option.bind_some, t6, Option.bind_some, y_ai L (by omega) 3 8 rfl rfl rfl (by decide) (by decide), Option.bind_some, v3, y_gi L 42 4 rfl rfl, Option.bind_some, u5, Option.bind_some, F_ck F, Option.bind_some, e26, Option.bind_some, y_gr L1 42 4 rfl rfl, Option.bind_some, t4', Option.bind_some, y_ar L1 68 6 12 rfl rfl rfl (by decide) (by decide), Option.bind_some, r68', Option.bind_some, x_gi P1.2.1.1 P1.2.1.2.1, Option.bind_some, w1', Option.bind_some, Option.bind_some, y_ar L1 68 6 12 rfl rfl rfl (by decide) (by decide), Option.bind_some, r68', Option.bind_some, x_gi P1.2.1.1 P1.2.1.2.1, Option.bind_some, h1', y_gi L1 42 4 rfl rfl, Option.bind_some, u5', Option.bind_some, F_ck F1, Option.bind_some, e28, Option.bind_some]
    by_cases c : cod = 0
    · rw [c, if_pos (show jw 0 = 0 by decide), y_gr L2 42 4 rfl rfl, Option.bind_some, t6', Option.bind_some, y_ai L2 (by omega) 3 8 rfl rfl rfl (by decide) (by decide), Option.bind_some, v32, hd, c, if_pos rfl]
    · rw [if_neg (show ¬ jw cod = 0 by rw [n_jw (z := cod) (by omega) (by omega)]; exact c), hd, if_neg c]
  · obtain ⟨p, p1, p2, p3⟩ := rdy j j0 j1
    have pa := F2.2.2.2.2 j j0 (by omega) p p1
    have n1 : p ≠ a + 1 := fun e => by
      have := pa.2.1.2.2.2
      rw [e, (F2.2.1 1 (by decide)).2.2.2] at this
      omega
    have n2 : p ≠ a + 2 := fun e => by
      have := pa.2.1.2.2.2
      rw [e, (F2.2.1 2 (by decide)).2.2.2] at this
      omega
    exact ⟨p, p1, by rw [o3 p n1 n2]; exact p2, by rw [o3 p n1 n2]; exact p3⟩
  · obtain ⟨-, ff, ⟨y1, y2, y3⟩, y4⟩ := B1
    obtain ⟨t1, -, -, -, t5⟩ := kp a (ca1 0 (by decide)).1 (ca1 0 (by decide)).2.2.2
    refine ⟨F2, ff, ⟨by rw [o3 a (by omega) (by omega), t1]; exact y1, y2, y3⟩, ?_⟩
    rcases y4 with y4 | ⟨c, y5, y6, y7⟩
    · exact Or.inl y4
    · obtain ⟨c153, y, -, hy⟩ := F1.2.2.2.1 c y5
      obtain ⟨v1, -, v3⟩ := Ce_fr S2 hy (by omega)
      have nc : ∀ j : Nat, j < 13 → c ≠ a + j := fun j hj e => by
        have := hy.2.2.2
        rw [e, (ca1 j hj).2.2.2] at this
        omega
      refine Or.inr ⟨c, by rw [t5 (by omega)]; exact y5, by rw [v1.2.2.1, ← hy.2.2.1]; exact y6, ?_⟩
      rw [o3 c (nc 1 (by decide)) (nc 2 (by decide)), v3]
      exact y7
  · have c8 := ca1 8 (by decide)
    rw [o3 (a + 8) (by omega) (by omega), (kp (a + 8) c8.1 c8.2.2.2).1, X1.2.2.2.1 (a + 8) (ca 8 (by decide)).1 (by omega) (by rw [(ca 8 (by decide)).2.2.2]; omega), hI0, ims_e, if_pos ⟨x0, x1⟩]
end MkOpen
