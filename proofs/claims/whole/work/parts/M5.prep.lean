/-! making: up to the ways of a part, both sides -/
section Prep2
variable {s : hS} {Q : hQ} {hm : hO} {I J m m' M : jM} {p b1 b2 src : Nat} {w h X Y k kd st q a1 a2 n rc : Int} {W G : Int → Int} {x1 : Option Nat} {x7 : Int}
theorem MP_gs (S : MP s Q I m p b1 b2 src w h k kd st q a1 a2 n rc) (hX : q % (w / 8) = X) (q0 : 0 ≤ q) (q9 : q < 9) (hG : ∀ i : Int, G i = if X = 0 then 0 else I 50 i) : GsP m k q G ∧ ∀ i : Int, 0 ≤ i → i < 4 → -8 ≤ G i ∧ G i ≤ 8 := by
  obtain ⟨-, ⟨-, -, sw, sh⟩, -, -, ⟨mw, mh, mk, kk0, kk1⟩, -, -, -, -, vec, -⟩ := S
  have w1 : w / 8 = 1 ∨ w / 8 = 2 ∨ w / 8 = 3 := by rcases sw with rfl | rfl | rfl <;> decide
  have Xb : 0 ≤ X ∧ X < 3 := by rw [← hX]; rcases w1 with e | e | e <;> rw [e] <;> omega
  have qp : X ≠ 0 → 0 < q := fun h => by
    by_cases hq : q = 0
    · rw [hq, Int.zero_emod] at hX
      omega
    · omega
  refine ⟨fun m' z1 z2 i i0 i1 => ?_, fun i i0 i1 => ?_⟩
  · have t := (k_245 (m := m') (mm := q) sw (z1.trans mw) q0 (by omega)).1
    rw [hX] at t
    unfold jd_260 jd_260_b21
    rw [t, Option.bind_some, n_jw (z := X) (by omega) (by omega), hG i]
    by_cases c : X = 0
    · rw [if_pos c, if_pos c]
    · have := qp c
      rw [if_neg c, if_neg c]
      unfold jd_259
      rw [y_ma 111 756 rfl rfl (by omega) (by omega), Option.bind_some, Option.bind_some, z2, (vec this i i0 i1).1]
  · rw [hG i]
    by_cases c : X = 0
    · rw [if_pos c]
      omega
    · rw [if_neg c]
      exact (vec (qp c) i i0 i1).2
/-- what stays up to the ways -/
def UF (I m I3 m3 : jM) : Prop := (∀ x : Nat, x ≠ 45 → x ≠ 47 → x ≠ 50 → x ≠ 51 → x ≠ 53 → x ≠ 54 → x ≠ 56 → x ≠ 60 → I3 x = I x) ∧ (∀ z : Int, z ≠ 5 → z ≠ 6 → I3 45 z = I 45 z) ∧ (∀ c : Nat, c ≠ 76 → c ≠ 125 → m3 c = m c) ∧ ∀ z : Int, z ≠ 75 → z ≠ 76 → z ≠ 77 → m3 76 z = m 76 z
theorem rf_0 {b : Nat} {a : Int} (R : RfE s Q I m b w h a) (sw : isSd w) (sh : isSd h) {j : Int} (j0 : 0 ≤ j) (j1 : j < w * h) : I (b + 1) j = m 109 (864 * a + (0 + j)) ∧ 0 ≤ m 109 (864 * a + (0 + j)) ∧ m 109 (864 * a + (0 + j)) ≤ 255 := by
  have := R.2.2.2.2.2 0 j (by decide) (by decide) j0 j1
  have e1 : pb w h 0 = 0 := rfl
  have e2 : pf 0 = 0 := rfl
  rw [e1, e2, Int.zero_add] at this
  rw [Int.zero_add]
  exact this
theorem prep (L : Lay s Q hm) (h6 : s.1 ≤ 1000000) (S : MP s Q I m p b1 b2 src w h k kd st q a1 a2 n rc) (hX : q % (w / 8) = X) (hY : q / (w / 8) = Y) (q0 : 0 ≤ q) (q1 : q < w / 8 * (h / 8)) (hx7 : x7 = w / 8 * (h / 8)) : ∃ (I3 m3 : jM) (G fd : Int → Int), PSm s Q I3 m3 p b1 b2 w h X Y k kd st q a1 a2 (wS m k w X Y) G fd ∧ jd_16_s46 44 x1 (some src) rc x7 q (hh s Q I) = jd_16_b125 44 x1 (some src) rc x7 q (hh s Q I3) ∧ jd_285 k q st m = jd_285_b138 k q st n m3 ∧ UF I m I3 m3 ∧ m3 76 75 = -1 := by
  have S' := S
  obtain ⟨⟨P, q2⟩, ⟨hw, hh', sw, sh⟩, ⟨eK, eS⟩, ⟨k0, k2, s0, s1⟩, ⟨mw, mh, mk, kk0, kk1⟩, PE, R1, R2, ⟨PS, ws, hs, sp, c0, c1, srcE⟩, vec, ⟨wx, m53, nb, wt⟩, hrc, rc0, rc8⟩ := S
  have T := PtC_45 L
  have p153 := P.1
  have s153 := PS.1
  have mr := mm_r sw sh q0 q1
  rw [hX, hY] at mr
  obtain ⟨SP, SQ⟩ := src_p (m := m) (k := k) sw sh mw kk0 kk1 c0 c1 hX hY q0 q1 (fun pl j x0 x1 x2 x3 => (srcE pl j x0 x1 x2 x3).2)
  obtain ⟨W, hW⟩ : ∃ W, W = wS m k w X Y := ⟨_, rfl⟩
  rw [← hW] at SP SQ ⊢
  obtain ⟨G, hG⟩ : ∃ G : Int → Int, G = fun i => if X = 0 then 0 else I 50 i := ⟨_, rfl⟩
  obtain ⟨GP, Gb⟩ := MP_gs (G := G) S' hX q0 (by omega) (fun i => by rw [hG])
  have q044 : Q 44 ((0 : Nat) : Int) = some 45 := Lq L rfl
  have q244 : Q 44 ((2 : Nat) : Int) = some 56 := Lq L rfl
  have c56 : 56 < s.1 ∧ s.2.2.1 56 = 0 ∧ s.2.2.2 56 = 96 := by
    have := L.2.1 56 (by decide)
    exact ⟨this.1, this.2.1, this.2.2.1⟩
  -- goTo
  obtain ⟨Gc, e74, hGc⟩ := c_74 (T := 45) (q := q) T h6 P q2 hw sw q0 (by omega)
  obtain ⟨I1, hI1⟩ : ∃ I1, I1 = ims (jms (jms I 45 5 (q % (w / 8))) 45 6 (q / (w / 8))) (45 + 6) Gc := ⟨_, rfl⟩
  rw [← hI1] at e74
  have o1 : ∀ x : Nat, x ≠ 45 → x ≠ 51 → I1 x = I x := fun x x1 x2 => by rw [hI1, ims_o x2, jms_o x1, jms_o x1]
  have i45 : I1 45 5 = X ∧ I1 45 6 = Y ∧ ∀ z : Int, z ≠ 5 → z ≠ 6 → I1 45 z = I 45 z := by
    rw [hI1, ims_o (by decide)]
    exact ⟨by rw [jms_i (by decide), jms_e]; exact hX, by rw [jms_e]; exact hY, fun z z1 z2 => by rw [jms_i z2, jms_i z1]⟩
  have i51 : ∀ i : Int, 0 ≤ i → i < 4 → I1 51 i = G i := fun i x0 x1 => by
    have : I1 51 = Gc := by rw [hI1]; exact ims_e
    rw [this, hGc i x0 x1, hX, hG]
  -- exchange
  obtain ⟨Gw, e93, hGw⟩ := c_93r (I := I1) (T := 45) (d := 56) (p := src) (X := X) (Y := Y) T c56 (by decide) (by decide) PS (by rw [o1 src (by omega) (by omega)]; exact ws) (by rw [o1 src (by omega) (by omega)]; exact hs) sw sh i45.1 i45.2.1 mr.1 mr.2.1 mr.2.2.1 mr.2.2.2.1
  obtain ⟨I2, hI2⟩ : ∃ I2, I2 = ims I1 56 Gw := ⟨_, rfl⟩
  rw [← hI2] at e93
  have o2 : ∀ x : Nat, x ≠ 45 → x ≠ 51 → x ≠ 56 → I2 x = I x := fun x x1 x2 x3 => by rw [hI2, ims_o x3]; exact o1 x x1 x2
  have i2_45 : I2 45 = I1 45 := by rw [hI2, ims_o (by decide)]
  have i2_51 : I2 51 = I1 51 := by rw [hI2, ims_o (by decide)]
  have i2_56 : ∀ z : Int, 0 ≤ z → z < 96 → I2 56 z = W z ∧ 0 ≤ W z ∧ W z ≤ 255 := fun z z0 z1 => by
    refine ⟨?_, SP.2 z z0 z1⟩
    obtain ⟨pl, r, c, p0, p2, r0, r1, c0', c1', rfl⟩ := pl_cell z0 z1
    have rx := pt_r sw p0 p2 mr.1 mr.2.1
    have ry := pt_r sh p0 p2 mr.2.2.1 mr.2.2.2.1
    have d := dm_b (W := pw w pl) (H := pw h pl) (r := Y * sdOf pl + r) (c := X * sdOf pl + c) (by omega) (by omega) (by omega) (by omega)
    rw [hI2, ims_e, hGw pl r c p0 p2 r0 r1 c0' c1', o1 (src + 1) (by omega) (by omega), (srcE pl _ p0 p2 d.1 d.2).1, hW, wS_v p0 p2 r0 r1 c0' c1']
  obtain ⟨m1, hm1⟩ : ∃ m1, m1 = jms m 76 75 (-1) := ⟨_, rfl⟩
  have mo : ∀ c : Nat, c ≠ 76 → m1 c = m c := fun c hc => by rw [hm1, jms_o hc]
  have mz : ∀ z : Int, z ≠ 75 → m1 76 z = m 76 z := fun z hz => by rw [hm1, jms_i hz]
  have SQ1 : ∀ {N : jM}, N 76 33 = m 76 33 → N 103 = m 103 → N 121 = m 121 → SrcQ N k X Y W := fun {N} z1 z2 z3 m' y1 y2 y3 => SQ m' (y1.trans z1) (y2.trans z2) (y3.trans z3)
  have e2_45 : I2 45 ((0 : Nat) : Int) = kd := by
    rw [i2_45]
    exact (i45.2.2 0 (by decide) (by decide)).trans eK
  have hk0 : jw kd = kd := n_jw (by omega) (by omega)
  have parts9 : x7 ≤ 9 ∧ q < x7 := by
    have : w / 8 * (h / 8) ≤ 9 := by rcases sw with rfl | rfl | rfl <;> rcases sh with rfl | rfl | rfl <;> decide
    omega
  -- the first search
  obtain ⟨J1, m2, fx, fy, cA, mA, FA1, FA2, FA3, FA4, fdA, fb⟩ : ∃ (J1 m2 : jM) (fx fy : Int), jd_16_s46 44 x1 (some src) rc x7 q (hh s Q I) = jd_16_b100 44 x1 (some src) rc x7 q (hh s Q J1) ∧ jd_285 k q st m = jd_285_b82 k q st n m2 ∧ (∀ x : Nat, x ≠ 47 → x ≠ 50 → x ≠ 53 → x ≠ 54 → x ≠ 60 → J1 x = I2 x) ∧ (∀ c : Nat, c ≠ 76 → c ≠ 125 → m2 c = m c) ∧ (∀ z : Int, z ≠ 75 → z ≠ 76 → z ≠ 77 → m2 76 z = m 76 z) ∧ m2 76 75 = -1 ∧ (kd ≠ 0 → J1 60 0 = fx ∧ J1 60 1 = fy ∧ m2 125 0 = fx ∧ m2 125 1 = fy) ∧ ((-8 ≤ fx ∧ fx ≤ 8) ∧ -8 ≤ fy ∧ fy ≤ 8) := by
    have hC : jd_16_s46 44 x1 (some src) rc x7 q (hh s Q I) = (if kd = 0 then jd_16_b100 44 x1 (some src) rc x7 q (hh s Q I2) else ((jd_17 44 (Q 45 3) 0 rc (hh s Q I2)).bind fun h125 => jd_16_b100 44 x1 (some src) rc x7 q h125)) := by
      unfold jd_16_s46
      rw [n_jw (z := x7) (by omega) (by omega), n_jw (z := q) (by omega) (by omega), if_neg (by omega), y_gr L 44 1 rfl rfl, Option.bind_some, q044, Option.bind_some, T_ck T, Option.bind_some, e74, Option.bind_some, y_gr L 44 1 rfl rfl, Option.bind_some, q044, y_gr L 44 1 rfl rfl, Option.bind_some, q244, Option.bind_some, T_ck T, Option.bind_some, e93, Option.bind_some, y_gr L 44 1 rfl rfl, Option.bind_some, q044, Option.bind_some, T_gi T, Option.bind_some, e2_45, hk0, Option.bind_some, Option.bind_some, T_gr T, Option.bind_some, y_ck L 44 1 rfl rfl, Option.bind_some]
      rfl
    have hM : jd_285 k q st m = (if kd = 0 then jd_285_b82 k q st n m1 else ((jd_239 k (if kd = 2 then 2 else 1) m1).bind fun v57 => ((jd_260 k q 1 m1).bind fun v59 => ((jd_260 k q 2 m1).bind fun v61 => ((jd_283 k q v57 v59 v61 m1).bind fun m63 => ((jmw m63 125 0 (m63 76 76)).bind fun m65 => ((jmw m65 125 1 (m65 76 77)).bind fun m67 => jd_285_b82 k q st n m67))))))) := by
      unfold jd_285
      rw [Option.bind_some, ← hm1, y_ma 102 12 rfl rfl kk0 (by omega), Option.bind_some, mo 102 (by decide), mk, hk0, m53, Option.bind_some, hk0]
    by_cases ck : kd = 0
    · refine ⟨I2, m1, 0, 0, by rw [hC, if_pos ck], by rw [hM, if_pos ck], fun _ _ _ _ _ _ => rfl, fun c x1 _ => mo c x1, fun z x1 _ _ => mz z x1, by rw [hm1, jms_e], fun h => absurd ck h, by decide⟩
    · obtain ⟨⟨y1, y2, y3⟩, y4, y5⟩ := R1 ck
      have b153 := y2.1.1
      have si : SI s Q I2 m1 b1 w h X Y 0 (G 0) (G 1) a1 k q rc W := by
        refine ⟨y2.1, ⟨by rw [o2 b1 (by omega) (by omega) (by omega)]; exact y2.2.1, by rw [o2 b1 (by omega) (by omega) (by omega)]; exact y2.2.2.1, sw, sh⟩, by decide, ⟨by rw [i2_45]; exact i45.1, by rw [i2_45]; exact i45.2.1, hX, hY, q0, q1⟩, ⟨by rw [mz 33 (by decide)]; exact mw, by rw [mz 34 (by decide)]; exact mh, y2.2.2.2.1, y2.2.2.2.2.1⟩, fun j j0 j1 => ?_, ⟨by rw [i2_51]; exact i51 0 (by decide) (by decide), by rw [i2_51]; exact i51 1 (by decide) (by decide), ?_, ?_⟩, fun z z0 z1 => i2_56 z z0 (by omega), SQ1 (mz 33 (by decide)) (mo 103 (by decide)) (mo 121 (by decide)), rc0, rc8⟩
        · rw [o2 (b1 + 1) (by omega) (by omega) (by omega), mo 109 (by decide)]
          exact rf_0 y2 sw sh j0 j1
        · have := Gb 0 (by decide) (by decide)
          omega
        · have := Gb 1 (by decide) (by decide)
          omega
      obtain ⟨fx, fy, J', M', z1, z2, z3, z4, z5, z6, z7, z8, z9⟩ := srch L h6 si (by rw [mo 82 (by decide)]; exact hrc)
      have g0 : jd_260 k q 1 m1 = some (G 0) := GP m1 (mz 33 (by decide)) (mo 111 (by decide)) 0 (by decide) (by decide)
      have g1 : jd_260 k q 2 m1 = some (G 1) := GP m1 (mz 33 (by decide)) (mo 111 (by decide)) 1 (by decide) (by decide)
      refine ⟨J', jms (jms M' 125 0 fx) 125 1 fy, fx, fy, ?_, ?_, z3.1, fun c x1 x2 => by rw [jms_o x2, jms_o x2, z3.2.2.1 c x1, mo c x1], fun z x1 x2 x3 => by rw [jms_o (by decide), jms_o (by decide), z3.2.2.2 z x2 x3, mz z x1], ?_, fun _ => ⟨z4, z5, by rw [jms_i (by decide), jms_e], jms_e⟩, z8, z9⟩
      · rw [hC, if_neg ck, y1, z1, Option.bind_some]
      · rw [hM, if_neg ck, y3 m1 (mz 36 (by decide)) (mo 102 (by decide)), Option.bind_some, g0, Option.bind_some, g1, Option.bind_some, z2, Option.bind_some, z6, y_mw 125 4 rfl rfl (by decide) (by decide), Option.bind_some, jms_o (show (76 : Nat) ≠ 125 by decide), z7, y_mw 125 4 rfl rfl (by decide) (by decide), Option.bind_some]
      · rw [jms_o (by decide), jms_o (by decide), z3.2.2.2 75 (by decide) (by decide), hm1, jms_e]
  -- the second search
  have j45 : J1 45 = I1 45 := by rw [FA1 45 (by decide) (by decide) (by decide) (by decide) (by decide), i2_45]
  obtain ⟨J2, m3, gx, gy, cB, mB, FB1, FB2, FB3, FB4, FB5, FB6, fdB, gb⟩ : ∃ (J2 m3 : jM) (gx gy : Int), jd_16_b100 44 x1 (some src) rc x7 q (hh s Q J1) = jd_16_b125 44 x1 (some src) rc x7 q (hh s Q J2) ∧ jd_285_b82 k q st n m2 = jd_285_b138 k q st n m3 ∧ (∀ x : Nat, x ≠ 47 → x ≠ 50 → x ≠ 53 → x ≠ 54 → x ≠ 60 → J2 x = J1 x) ∧ (∀ z : Int, z ≠ 2 → z ≠ 3 → J2 60 z = J1 60 z) ∧ (∀ c : Nat, c ≠ 76 → c ≠ 125 → m3 c = m2 c) ∧ (∀ z : Int, z ≠ 76 → z ≠ 77 → m3 76 z = m2 76 z) ∧ (∀ z : Int, z ≠ 2 → z ≠ 3 → m3 125 z = m2 125 z) ∧ m3 76 75 = -1 ∧ (kd = 2 → J2 60 2 = gx ∧ J2 60 3 = gy ∧ m3 125 2 = gx ∧ m3 125 3 = gy) ∧ ((-8 ≤ gx ∧ gx ≤ 8) ∧ -8 ≤ gy ∧ gy ≤ 8) := by
    have e45' : J1 45 ((0 : Nat) : Int) = kd := by
      rw [j45]
      exact (i45.2.2 0 (by decide) (by decide)).trans eK
    have hC : jd_16_b100 44 x1 (some src) rc x7 q (hh s Q J1) = (if kd = 2 then ((jd_17 44 (Q 45 4) 2 rc (hh s Q J1)).bind fun h70 => jd_16_b125 44 x1 (some src) rc x7 q h70) else jd_16_b125 44 x1 (some src) rc x7 q (hh s Q J1)) := by
      unfold jd_16_b100
      rw [y_gr L 44 1 rfl rfl, Option.bind_some, q044, Option.bind_some, T_gi T, Option.bind_some, e45', hk0, Option.bind_some, Option.bind_some, T_gr T, Option.bind_some, y_ck L 44 1 rfl rfl, Option.bind_some]
      rfl
    have hM : jd_285_b82 k q st n m2 = (if kd = 2 then ((jd_239 k 1 m2).bind fun v9 => ((jd_260 k q 3 m2).bind fun v11 => ((jd_260 k q 4 m2).bind fun v13 => ((jd_283 k q v9 v11 v13 m2).bind fun m15 => ((jmw m15 125 2 (m15 76 76)).bind fun m17 => ((jmw m17 125 3 (m17 76 77)).bind fun m19 => jd_285_b138 k q st n m19)))))) else jd_285_b138 k q st n m2) := by
      unfold jd_285_b82
      rw [y_ma 102 12 rfl rfl kk0 (by omega), Option.bind_some, FA2 102 (by decide) (by decide), mk, hk0]
    by_cases ck : kd = 2
    · obtain ⟨⟨y1, y2, y3⟩, y4, y5⟩ := R2 ck
      have b153 := y2.1.1
      have jb : ∀ x : Nat, 153 ≤ x → J1 x = I x := fun x hx => by rw [FA1 x (by omega) (by omega) (by omega) (by omega) (by omega), o2 x (by omega) (by omega) (by omega)]
      have si : SI s Q J1 m2 b2 w h X Y 2 (G 2) (G 3) a2 k q rc W := by
        refine ⟨y2.1, ⟨by rw [jb b2 (by omega)]; exact y2.2.1, by rw [jb b2 (by omega)]; exact y2.2.2.1, sw, sh⟩, by decide, ⟨by rw [j45]; exact i45.1, by rw [j45]; exact i45.2.1, hX, hY, q0, q1⟩, ⟨by rw [FA3 33 (by decide) (by decide) (by decide)]; exact mw, by rw [FA3 34 (by decide) (by decide) (by decide)]; exact mh, y2.2.2.2.1, y2.2.2.2.2.1⟩, fun j j0 j1 => ?_, ⟨?_, ?_, ?_, ?_⟩, fun z z0 z1 => by rw [FA1 56 (by decide) (by decide) (by decide) (by decide) (by decide)]; exact i2_56 z z0 (by omega), SQ1 (FA3 33 (by decide) (by decide) (by decide)) (FA2 103 (by decide) (by decide)) (FA2 121 (by decide) (by decide)), rc0, rc8⟩
        · rw [jb (b2 + 1) (by omega), FA2 109 (by decide) (by decide)]
          exact rf_0 y2 sw sh j0 j1
        · rw [FA1 51 (by decide) (by decide) (by decide) (by decide) (by decide), i2_51]
          exact i51 2 (by decide) (by decide)
        · rw [FA1 51 (by decide) (by decide) (by decide) (by decide) (by decide), i2_51]
          exact i51 3 (by decide) (by decide)
        · have := Gb 2 (by decide) (by decide)
          omega
        · have := Gb 3 (by decide) (by decide)
          omega
      obtain ⟨gx, gy, J', M', z1, z2, z3, z4, z5, z6, z7, z8, z9⟩ := srch L h6 si (by rw [FA2 82 (by decide) (by decide)]; exact hrc)
      have g0 : jd_260 k q 3 m2 = some (G 2) := GP m2 (FA3 33 (by decide) (by decide) (by decide)) (FA2 111 (by decide) (by decide)) 2 (by decide) (by decide)
      have g1 : jd_260 k q 4 m2 = some (G 3) := GP m2 (FA3 33 (by decide) (by decide) (by decide)) (FA2 111 (by decide) (by decide)) 3 (by decide) (by decide)
      refine ⟨J', jms (jms M' 125 2 gx) 125 3 gy, gx, gy, ?_, ?_, z3.1, z3.2.1, fun c x1 x2 => by rw [jms_o x2, jms_o x2, z3.2.2.1 c x1], fun z x2 x3 => by rw [jms_o (by decide), jms_o (by decide), z3.2.2.2 z x2 x3], fun z x2 x3 => by rw [jms_i x3, jms_i x2, z3.2.2.1 125 (by decide)], ?_, fun _ => ⟨z4, z5, by rw [jms_i (by decide), jms_e], jms_e⟩, z8, z9⟩
      · rw [hC, if_pos ck, y1, z1, Option.bind_some]
      · rw [hM, if_pos ck, y3 m2 (FA3 36 (by decide) (by decide) (by decide)) (FA2 102 (by decide) (by decide)), Option.bind_some, g0, Option.bind_some, g1, Option.bind_some, z2, Option.bind_some, z6, y_mw 125 4 rfl rfl (by decide) (by decide), Option.bind_some, jms_o (show (76 : Nat) ≠ 125 by decide), z7, y_mw 125 4 rfl rfl (by decide) (by decide), Option.bind_some]
      · rw [jms_o (by decide), jms_o (by decide), z3.2.2.2 75 (by decide) (by decide)]
        exact FA4
    · exact ⟨J1, m2, 0, 0, by rw [hC, if_neg ck], by rw [hM, if_neg ck], fun _ _ _ _ _ _ => rfl, fun _ _ _ => rfl, fun _ _ _ => rfl, fun _ _ _ => rfl, fun _ _ _ => rfl, FA4, fun h => absurd h ck, by decide⟩
  have Uf : UF I m J2 m3 := by
    refine ⟨fun x y1 y2 y3 y4 y5 y6 y7 y8 => ?_, fun z y1 y2 => ?_, fun c y1 y2 => (FB3 c y1 y2).trans (FA2 c y1 y2), fun z y1 y2 y3 => (FB4 z y2 y3).trans (FA3 z y1 y2 y3)⟩
    · rw [FB1 x y2 y3 y5 y6 y8, FA1 x y2 y3 y5 y6 y8, o2 x y1 y4 y7]
    · rw [FB1 45 (by decide) (by decide) (by decide) (by decide) (by decide), j45]
      exact i45.2.2 z y1 y2
  have hb : ∀ x : Nat, 153 ≤ x → J2 x = I x := fun x hx => Uf.1 x (by omega) (by omega) (by omega) (by omega) (by omega) (by omega) (by omega) (by omega)
  have j2_45 : J2 45 = I1 45 := by rw [FB1 45 (by decide) (by decide) (by decide) (by decide) (by decide), j45]
  have m3109 : m3 109 = m 109 := Uf.2.2.1 109 (by decide) (by decide)
  have m3102 : m3 102 = m 102 := Uf.2.2.1 102 (by decide) (by decide)
  have m3z : ∀ z : Int, z < 75 → m3 76 z = m 76 z := fun z hz => Uf.2.2.2 z (by omega) (by omega) (by omega)
  have RE : ∀ {b : Nat} {a : Int}, RfE s Q I m b w h a → RfE s Q J2 m3 b w h a := fun {b} {a} R => by
    have b153 := R.1.1
    obtain ⟨r1, r2, r3, r4, r5, r6⟩ := R
    refine ⟨r1, by rw [hb b (by omega)]; exact r2, by rw [hb b (by omega)]; exact r3, r4, r5, fun pl j x0 x1 x2 x3 => ?_⟩
    rw [hb (b + 1) (by omega), m3109]
    exact r6 pl j x0 x1 x2 x3
  refine ⟨J2, m3, G, fun i => if i = 0 then fx else if i = 1 then fy else if i = 2 then gx else if i = 3 then gy else 0, ⟨⟨P, q2⟩, ⟨by rw [hb p p153]; exact hw, by rw [hb p p153]; exact hh', sw, sh⟩, ⟨?_, ?_, by rw [j2_45]; exact i45.1, by rw [j2_45]; exact i45.2.1⟩, ⟨k0, k2, s0, s1⟩, ⟨hX, hY, q0, q1⟩, ⟨by rw [m3z 33 (by decide)]; exact mw, by rw [m3z 34 (by decide)]; exact mh, by rw [m3102]; exact mk, kk0, kk1⟩, ?_, fun ck => ?_, fun ck => ?_, fun z z0 z1 => ?_, ?_, fun i i0 i1 => ⟨?_, Gb i i0 i1⟩, ?_, fun i => ?_, fun ck => ?_, fun ck => ?_⟩, cA.trans cB, mA.trans mB, Uf, FB6⟩
  · rw [j2_45]
    exact (i45.2.2 0 (by decide) (by decide)).trans eK
  · rw [j2_45]
    exact (i45.2.2 1 (by decide) (by decide)).trans eS
  · intro pl x y x0 x1 x2 x3 x4 x5 x6
    rw [hb (p + 1) (by omega), m3109]
    exact PE pl x y x0 x1 x2 x3 x4 x5 x6
  · obtain ⟨⟨y1, y2, y3⟩, -⟩ := R1 ck
    exact ⟨y1, RE y2, fun m' z1 z2 => y3 m' (by rw [z1, m3z 36 (by decide)]) (by rw [z2, m3102])⟩
  · obtain ⟨⟨y1, y2, y3⟩, -⟩ := R2 ck
    exact ⟨y1, RE y2, fun m' z1 z2 => y3 m' (by rw [z1, m3z 36 (by decide)]) (by rw [z2, m3102])⟩
  · rw [FB1 56 (by decide) (by decide) (by decide) (by decide) (by decide), FA1 56 (by decide) (by decide) (by decide) (by decide) (by decide)]
    exact i2_56 z z0 z1
  · exact ⟨fun m' z1 z2 z3 => SP.1 m' (by rw [z1, m3z 33 (by decide)]) (by rw [z2, Uf.2.2.1 103 (by decide) (by decide)]) (by rw [z3, Uf.2.2.1 121 (by decide) (by decide)]), SP.2⟩
  · rw [FB1 51 (by decide) (by decide) (by decide) (by decide) (by decide), FA1 51 (by decide) (by decide) (by decide) (by decide) (by decide), i2_51]
    exact i51 i i0 i1
  · exact fun m' z1 z2 => GP m' (by rw [z1, m3z 33 (by decide)]) (by rw [z2, Uf.2.2.1 111 (by decide) (by decide)])
  · show -8 ≤ (if i = 0 then fx else if i = 1 then fy else if i = 2 then gx else if i = 3 then gy else 0) ∧ (if i = 0 then fx else if i = 1 then fy else if i = 2 then gx else if i = 3 then gy else 0) ≤ 8
    repeat' split
    all_goals omega
  · obtain ⟨y1, y2, y3, y4⟩ := fdA ck
    exact ⟨by rw [FB2 0 (by decide) (by decide)]; exact y1, by rw [FB2 1 (by decide) (by decide)]; exact y2, by rw [FB5 0 (by decide) (by decide)]; exact y3, by rw [FB5 1 (by decide) (by decide)]; exact y4⟩
  · exact fdB ck
end Prep2
