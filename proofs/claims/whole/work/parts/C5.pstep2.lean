/-! a part of a picture, on both sides -/
section PStep2
variable {s : hS} {Q : hQ} {hm : hO} {I m : jM} {A p b1 b2 c : Nat} {base en w h k q kd st a1 a2 : Int}
def PS (p c : Nat) (w h k q : Int) (I m I' m' : jM) : Prop := (∀ a : Nat, (a < 9 ∨ (20 < a ∧ a ≠ 41)) → a ≠ p + 1 → a ≠ c + 12 → I' a = I a) ∧ (I' 11 0 = I 11 0 ∧ I' 11 1 = I 11 1) ∧ (∀ a : Nat, a ≠ 76 → a ≠ 109 → a ≠ 111 → (a < 114 ∨ 117 < a) → m' a = m a) ∧ (∀ j : Int, j < 51 ∨ 65 < j → m' 76 j = m 76 j) ∧ PrtE p w h k q I' m' ∧ (∀ j : Int, j < 864 * k ∨ 864 * k + 864 ≤ j → m' 109 j = m 109 j) ∧ (∀ r z : Int, 0 ≤ r → r < q → 0 ≤ z → z < 7 → m' 111 (63 * k + 7 * r + z) = I' (c + 12) ((k * 9 + r) * 7 + z)) ∧ (∀ j : Int, j < 63 * k ∨ 63 * k + 63 ≤ j → m' 111 j = m 111 j ∧ I' (c + 12) j = I (c + 12) j)
def VC (k q : Int) (I m : jM) : Prop := 0 < q → ∀ j : Int, 0 ≤ j → j < 4 → -16 ≤ I 16 j ∧ I 16 j ≤ 16 ∧ I 16 j = m 111 (63 * k + 7 * (q - 1) + 1 + j)
theorem prt_q (sw : isSd w) {pl x y X Y : Int} (p0 : 0 ≤ pl) (p2 : pl ≤ 2) (x0 : 0 ≤ x) (x1 : x < pw w pl) (y0 : 0 ≤ y) (X0 : 0 ≤ X) (X1 : X < w / 8) (hq : q = Y * (w / 8) + X) : y / sdOf pl * (w / 8) + x / sdOf pl = q ↔ inP pl X Y x y := by
  have pp := ppb_b p0 p2
  have hx : 0 ≤ x / sdOf pl ∧ x / sdOf pl < w / 8 := by
    have hp : pl = 0 ∨ pl = 1 ∨ pl = 2 := by omega
    unfold pw at x1
    unfold sdOf
    rcases sw with rfl | rfl | rfl <;> rcases hp with rfl | rfl | rfl <;> simp at x1 ⊢ <;> omega
  have key : y / sdOf pl * (w / 8) + x / sdOf pl = q ↔ y / sdOf pl = Y ∧ x / sdOf pl = X := by
    have a1 := (dm (W := w / 8) (k := y / sdOf pl * (w / 8) + x / sdOf pl) (r := y / sdOf pl) (c := x / sdOf pl) (by omega) hx.1 hx.2).1 rfl
    have a2 := (dm (W := w / 8) (k := q) (r := Y) (c := X) (by omega) X0 X1).1 hq
    constructor
    · intro e
      rw [e] at a1
      omega
    · intro ⟨e1, e2⟩
      rw [e1, e2, hq]
  rw [key]
  unfold inP
  rcases pp.2.2 with e | e <;> rw [e] <;> omega
theorem pstep (L : Lay s Q hm) (h6 : s.1 ≤ 1000000) (F : FlC s Q c) (hc : c = 28 ∨ 153 ≤ c) (P : PcC s Q p) (q2T : Q 11 2 = some p) (hw : I p 0 = w) (hv : I p 1 = h) (sw : isSd w) (sh : isSd h) (mw : m 76 33 = w) (mh : m 76 34 = h) (k0 : 0 ≤ k) (k1 : k < 12) (eK : I 11 0 = kd) (mk : m 102 k = kd) (kd0 : 0 ≤ kd) (kd2 : kd ≤ 2) (est : I 11 1 = st) (mst : m 104 k = st) (st0 : 0 ≤ st) (st1 : st ≤ 255) (RK : RfK s Q I m b1 b2 p w h k kd a1 a2) {N : Int} (hN : N = w / 8 * (h / 8)) (q0 : 0 ≤ q) (q1 : q < N) {I' m' : jM} {i : Int} (S : PS p c w h k q I m I' m') (VV : VC k q I' m') (R : BM s Q I' m' 10 A base i en) : ∃ f I2 m2, jd_265 k q m' = some m2 ∧ m2 76 52 = f ∧ 0 ≤ f ∧ f ≤ 7 ∧ jd_117_s28 9 (some c) k (some p) N q (hh s Q I') = (if f = 0 then some (.inl (q + 1, hh s Q I2)) else some (.inr (.inl (f, hh s Q I2)))) ∧ I2 9 6 = q ∧ (f = 0 → PS p c w h k (q + 1) I m I2 m2 ∧ VC k (q + 1) I2 m2 ∧ ∃ i', BM s Q I2 m2 10 A base i' en) ∧ (f ≠ 0 → PS p c w h k q I m I2 m2) := by
  have FT := PtC_11 L
  obtain ⟨P1, P2, P3, P4, P5, P6, P7⟩ := id P
  have qq0 : Q 9 ((0 : Nat) : Int) = some 10 := Lq L rfl
  have qq1 : Q 9 ((1 : Nat) : Int) = some 11 := Lq L rfl
  have qq9 : Q 11 ((9 : Nat) : Int) = some 14 := Lq L rfl
  have q18 := G_q F 11 18 rfl rfl
  have c12 := F.1 12 (by decide)
  have c12l : s.2.2.2 (c + 12) = 756 := c12.2.2
  have c12p : c + 12 ≠ p + 1 := fun e => by rw [e, P6] at c12l; exact absurd c12l (by decide)
  have c12q : c + 12 ≠ p := fun e => by
    have := c12.2.1
    rw [e, P3] at this
    exact absurd this (by decide)
  have q1' : q < w / 8 * (h / 8) := by omega
  have mr := mm_r sw sh q0 q1'
  have de := dm_e (w / 8) q
  obtain ⟨S1, S2, S3, S4, S5, S6, S7, S8⟩ := id S
  have gp : I' p = I p := S1 p (by omega) (by omega) (by omega)
  -- goTo
  obtain ⟨G6, e74, hG6⟩ := c_74 (I := jms I' 9 6 q) (q := q) FT h6 P q2T (by rw [jms_o (by omega), gp]; exact hw) sw q0 (by omega)
  obtain ⟨J, hJ⟩ : ∃ J, J = ims (jms (jms (jms I' 9 6 q) 11 5 (q % (w / 8))) 11 6 (q / (w / 8))) 17 G6 := ⟨_, rfl⟩
  have e74' : jd_74 11 q (hh s Q (jms I' 9 6 q)) = some (hh s Q J) := by rw [hJ]; exact e74
  have Jo : ∀ a : Nat, a ≠ 9 → a ≠ 11 → a ≠ 17 → J a = I' a := fun a h1 h2 h3 => by rw [hJ, ims_o h3, jms_o h2, jms_o h2, jms_o h1]
  have J9 : J 9 6 = q := by rw [hJ, ims_o (by decide), jms_o (by decide), jms_o (by decide), jms_e]
  have J115 : J 11 5 = q % (w / 8) := by rw [hJ, ims_o (by decide), jms_i (by decide), jms_e]
  have J116 : J 11 6 = q / (w / 8) := by rw [hJ, ims_o (by decide), jms_e]
  have J110 : J 11 0 = kd := by rw [hJ, ims_o (by decide), jms_i (by decide), jms_i (by decide), jms_o (by decide), S2.1]; exact eK
  have J111 : J 11 1 = st := by rw [hJ, ims_o (by decide), jms_i (by decide), jms_i (by decide), jms_o (by decide), S2.2]; exact est
  have J17 : ∀ j : Int, 0 ≤ j → j < 4 → J 17 j = if q % (w / 8) = 0 then 0 else I' 16 j := fun j j0 j1 => by
    rw [hJ, ims_e, hG6 j j0 j1, jms_o (by decide)]
  have RJ : BM s Q J m' 10 A base i en := BM_fr R (Jo A (BM_A L R rfl (by decide)) (BM_A L R rfl (by decide)) (BM_A L R rfl (by decide))) (by rw [Jo 10 (by decide) (by decide) (by decide)]) (by rw [Jo 10 (by decide) (by decide) (by decide)]) rfl rfl rfl rfl rfl
  have i10 : J 10 ((1 : Nat) : Int) = 8 * base + i := RJ.1.2.2.2.2.1
  -- the class's step, up to the way
  have C0 : jd_117_s28 9 (some c) k (some p) N q (hh s Q I') = ((jd_2 10 (hh s Q J)).bind fun q38 => (if 0 ≤ (jw q38.1) then ((jgr q38.2 9 8 1).bind fun r41 => ((r41).bind fun a43 => ((jck q38.2 a43 5).bind fun u45 => ((jd_75 a43 q38.2).bind fun v47 => jd_117_b100 9 (some c) k (some p) N q (8 * base + i) q38.1 (if (jw q38.1) < (jw v47) then 0 else 2) q38.2)))) else ((jgr q38.2 9 8 0).bind fun r93 => ((r93).bind fun a95 => ((jgi q38.2 a95 0 3).bind fun v97 => jd_117_b100 9 (some c) k (some p) N q (8 * base + i) q38.1 v97 q38.2))))) := by
    have h9 : N ≤ 9 := by
      rw [hN]
      rcases sw with rfl | rfl | rfl <;> rcases sh with rfl | rfl | rfl <;> decide
    unfold jd_117_s28
    rw [n_jw (z := N) (by omega) (by omega), n_jw (z := q) (by omega) (by omega), if_neg (by omega), y_pi L 9 8 rfl rfl, Option.bind_some, y_gr L 9 8 rfl rfl, Option.bind_some, qq1, Option.bind_some, y_ck L 11 5 rfl rfl, Option.bind_some, show ((6 : Nat) : Int) = 6 from rfl, e74', Option.bind_some, y_gr L 9 8 rfl rfl, Option.bind_some, qq0, Option.bind_some, y_gi L 10 0 rfl rfl, Option.bind_some, i10, Option.bind_some, Option.bind_some, y_ck L 10 0 rfl rfl, Option.bind_some]
  -- the model's step, up to the way
  obtain ⟨M0, hM0⟩ : ∃ M, M = jms (jms (jms (jms (jms m' 76 59 0) 76 62 0) 76 63 0) 76 64 0) 76 65 0 := ⟨_, rfl⟩
  have M0o : ∀ a : Nat, a ≠ 76 → M0 a = m' a := fun a ha => by rw [hM0, jms_o ha, jms_o ha, jms_o ha, jms_o ha, jms_o ha]
  have M07 : ∀ j : Int, j < 59 ∨ j = 60 ∨ j = 61 ∨ 65 < j → M0 76 j = m' 76 j := fun j hj => by rw [hM0, jms_i (by omega), jms_i (by omega), jms_i (by omega), jms_i (by omega), jms_i (by omega)]
  have b51 : m' 76 51 = i := R.2.1.2.2.2.1
  have R0 : BM s Q J M0 10 A base i en := BM_fr RJ rfl rfl rfl (M07 49 (by decide)) (M07 50 (by decide)) (M07 51 (by decide)) (M07 52 (by decide)) (M0o 112 (by decide))
  have mk' : m' 102 k = kd := by rw [S3 102 (by decide) (by decide) (by decide) (by decide)]; exact mk
  -- what is left where a part fails
  have fail : ∀ (f : Int) (J2 N2 : jM), (∀ a : Nat, a ≠ 10 → (a < 12 ∨ 20 < a) → a ≠ 41 → J2 a = J a) → (∀ a : Nat, a ≠ 76 → a ≠ 109 → a ≠ 111 → (a < 114 ∨ 117 < a) → N2 a = m' a) → (∀ j : Int, j < 51 ∨ 65 < j → N2 76 j = m' 76 j) → N2 109 = m' 109 → N2 111 = m' 111 → PS p c w h k q I m J2 N2 ∧ J2 9 6 = q := fun f J2 N2 h1 h2 h3 h4 h5 => by
    refine ⟨⟨fun a g1 g2 g3 => ?_, ?_, fun a g1 g2 g3 g4 => (h2 a g1 g2 g3 g4).trans (S3 a g1 g2 g3 g4), fun j hj => (h3 j hj).trans (S4 j hj), fun pl x y p0 p2 x0 x1 y0 y1 hl => ?_, fun j hj => by rw [h4]; exact S6 j hj, fun r z g1 g2 g3 g4 => ?_, fun j hj => ?_⟩, ?_⟩
    · rw [h1 a (by omega) (by omega) (by omega), Jo a (by omega) (by omega) (by omega)]
      exact S1 a g1 g2 g3
    · rw [h1 11 (by decide) (by decide) (by decide), J110, J111, eK, est]
      exact ⟨rfl, rfl⟩
    · rw [h1 (p + 1) (by omega) (by omega) (by omega), Jo (p + 1) (by omega) (by omega) (by omega), h4]
      exact S5 pl x y p0 p2 x0 x1 y0 y1 hl
    · rw [h5, h1 (c + 12) (by omega) (by omega) (by omega), Jo (c + 12) (by omega) (by omega) (by omega)]
      exact S7 r z g1 g2 g3 g4
    · rw [h5, h1 (c + 12) (by omega) (by omega) (by omega), Jo (c + 12) (by omega) (by omega) (by omega)]
      exact S8 j hj
    · rw [h1 9 (by decide) (by decide) (by decide)]
      exact J9
  have bad : ∀ (f : Int) (J2 : jM) (way : Int), 1 ≤ f → f ≤ 7 → jd_117_b100 9 (some c) k (some p) N q (8 * base + i) way f (hh s Q J2) = some (.inr (.inl (f, hh s Q J2))) := fun f J2 way f0 f1 => by
    unfold jd_117_b100 jd_117_b122
    rw [n_jw (z := f) (by omega) (by omega), if_neg (by omega), if_neg (by omega)]
  have b66 : ∀ (f : Int) (N2 : jM), N2 76 52 = f → 1 ≤ f → f ≤ 7 → jd_265_b66 k q i N2 = some N2 := fun f N2 hf f0 f1 => by
    unfold jd_265_b66
    rw [if_neg (br_1 hf f0 f1)]
  have D0 : jd_265 k q m' = (jd_229 M0).bind fun q11 => ((some (jms q11.2 76 60 q11.1)).bind fun m13 => (if (jw (m13 76 52)) = 0 then ((jma m13 102 k).bind fun v16 => (if (jw (m13 76 60)) < (jw (jd_262 v16)) then jd_265_b66 k q i m13 else ((jd_231 2 m13).bind fun m78 => jd_265_b66 k q i m78))) else jd_265_b66 k q i m13)) := by
    unfold jd_265
    rw [Option.bind_some, Option.bind_some, Option.bind_some, Option.bind_some, Option.bind_some, ← hM0, b51]
  rw [C0, D0]
  rcases code2 R0 with ⟨way, j, c1, c2, v0, v1, j0, j1, R2⟩ | ⟨f, v, j, j', hf, v0, v1, c1, c2⟩
  · obtain ⟨J2, hJ2⟩ : ∃ z, z = jms J 10 1 (8 * base + j) := ⟨_, rfl⟩
    obtain ⟨N2, hN2⟩ : ∃ z, z = jms (jms M0 76 51 j) 76 60 way := ⟨_, rfl⟩
    have J2o : ∀ a : Nat, a ≠ 10 → J2 a = J a := fun a ha => by rw [hJ2]; exact jms_o ha
    have N2o : ∀ a : Nat, a ≠ 76 → N2 a = m' a := fun a ha => by rw [hN2, jms_o ha, jms_o ha]; exact M0o a ha
    have N27 : ∀ j : Int, j < 51 ∨ (51 < j ∧ j < 59) ∨ j = 61 ∨ 65 < j → N2 76 j = m' 76 j := fun x hx => by rw [hN2, jms_i (by omega), jms_i (by omega)]; exact M07 x (by omega)
    have RN : BM s Q J2 N2 10 A base j en := by
      rw [hJ2, hN2]
      exact BM_fr R2 rfl rfl rfl (jms_i (by decide)) (jms_i (by decide)) (jms_i (by decide)) (jms_i (by decide)) (jms_o (by decide))
    have n60 : N2 76 60 = way := by rw [hN2]; exact jms_e
    have kb : jd_262 kd ≤ 7 ∧ 0 ≤ jd_262 kd := by
      unfold jd_262
      split
      · decide
      · split <;> decide
    rw [c1, Option.bind_some, c2, Option.bind_some, Option.bind_some, ← hJ2]
    dsimp only
    rw [← hN2, n_jw (z := way) (by omega) (by omega), if_pos v0, if_pos (BM_b0 RN), y_gr L 9 8 rfl rfl, Option.bind_some, qq1, Option.bind_some, y_ck L 11 5 rfl rfl, Option.bind_some, c_75 FT (by rw [J2o 11 (by decide)]; exact J110) kd0 kd2, Option.bind_some, y_ma 102 12 rfl rfl k0 k1, Option.bind_some, N2o 102 (by decide), mk', n60, n_jw (z := way) (by omega) (by omega), n_jw (z := jd_262 kd) (by omega) (by omega)]
    by_cases cw : way < jd_262 kd
    · rw [if_pos cw, if_pos cw]
      obtain ⟨t1, t2, t3, t4, t5, t6⟩ := mdW_t kd0 kd2 v0 cw
      have RK2 : RfK s Q J2 N2 b1 b2 p w h k kd a1 a2 := RfK_fr (c := c) k0 RK sw sh P F (fun a g1 g2 g3 => by rw [J2o a (by omega), Jo a (by omega) (by omega) (by omega)]; exact S1 a (by omega) g2 g3) (fun x hx => by rw [N2o 109 (by decide)]; exact S6 x hx) (by rw [N2o 102 (by decide)]; exact S3 102 (by decide) (by decide) (by decide) (by decide)) (by rw [N27 36 (by decide)]; exact S4 36 (by decide))
      have gb : ∀ x : Int, 0 ≤ x → x < 4 → J2 17 x = (if q % (w / 8) = 0 then 0 else N2 111 (63 * k + 7 * (q - 1) + (1 + x))) ∧ -16 ≤ (if q % (w / 8) = 0 then 0 else N2 111 (63 * k + 7 * (q - 1) + (1 + x))) ∧ (if q % (w / 8) = 0 then 0 else N2 111 (63 * k + 7 * (q - 1) + (1 + x))) ≤ 16 := fun x x0 x1 => by
        rw [J2o 17 (by decide), J17 x x0 x1, N2o 111 (by decide)]
        by_cases cx : q % (w / 8) = 0
        · rw [if_pos cx, if_pos cx]; decide
        · have qp : 0 < q := by
            rcases (show q = 0 ∨ 0 < q by omega) with e | e
            · rw [e] at cx; exact absurd (Int.zero_emod _) cx
            · exact e
          have := VV qp x x0 x1
          rw [if_neg cx, if_neg cx, ← Int.add_assoc, ← this.2.2]
          exact ⟨rfl, this.1, this.2.1⟩
      have G0 := gb 0 (by decide) (by decide)
      have G1 := gb 1 (by decide) (by decide)
      have G2 := gb 2 (by decide) (by decide)
      have G3 := gb 3 (by decide) (by decide)
      obtain ⟨f, J3, N3, r1, r2, r3, r4, r5, r6, r7, r8, r9, r10⟩ := rpart (I := J2) (m := N2) (md := mdW kd way) (way := way) (x3 := i) (kd := kd) (st := st) (b1 := b1) (b2 := b2) (a1 := a1) (a2 := a2) L h6 P q2T (by rw [J2o p (by omega), Jo p (by omega) (by omega) (by omega), gp]; exact hw) (by rw [J2o p (by omega), Jo p (by omega) (by omega) (by omega), gp]; exact hv) sw sh (by rw [N27 33 (by decide), S4 33 (by decide)]; exact mw) (by rw [N27 34 (by decide), S4 34 (by decide)]; exact mh) k0 k1 q0 q1' (by rw [J2o 11 (by decide)]; exact J115) (by rw [J2o 11 (by decide)]; exact J116) (by rw [J2o 11 (by decide)]; exact J110) (by rw [N2o 102 (by decide)]; exact mk') kd0 kd2 t1 t2 t3 t4 (by rw [J2o 11 (by decide)]; exact J111) (by rw [N2o 104 (by decide), S3 104 (by decide) (by decide) (by decide) (by decide)]; exact mst) st0 st1 n60 (by rw [hN2, jms_i (by decide), jms_i (by decide), hM0, jms_i (by decide), jms_i (by decide), jms_i (by decide), jms_i (by decide), jms_e]) (by rw [hN2, jms_i (by decide), jms_i (by decide), hM0, jms_i (by decide), jms_i (by decide), jms_i (by decide), jms_e]) (by rw [hN2, jms_i (by decide), jms_i (by decide), hM0, jms_i (by decide), jms_i (by decide), jms_e]) (by rw [hN2, jms_i (by decide), jms_i (by decide), hM0, jms_i (by decide), jms_e]) (by rw [hN2, jms_i (by decide), jms_i (by decide), hM0, jms_e]) G0.1 G1.1 G2.1 G3.1 G0.2 G1.2 G2.2 G3.2 (onl sw sh (by rw [N27 33 (by decide), S4 33 (by decide)]; exact mw) k0 k1 q0 q1') RN (fun pl x y p0 p2 x0 x1 y0 y1 hl => by
        rw [J2o (p + 1) (by omega), Jo (p + 1) (by omega) (by omega) (by omega), N2o 109 (by decide)]
        exact S5 pl x y p0 p2 x0 x1 y0 y1 hl) (RfK_s RK2 t5 t6)
      have J3o : ∀ a : Nat, a ≠ 10 → (a < 12 ∨ 20 < a) → a ≠ 41 → J3 a = J a := fun a g1 g2 g3 => (r6 a g1 g2 g3).trans (J2o a g1)
      have N3o : ∀ a : Nat, a ≠ 76 → a ≠ 109 → a ≠ 111 → (a < 114 ∨ 117 < a) → N3 a = m' a := fun a g1 g2 g3 g4 => (r7 a g1 g2 g3 g4).trans (N2o a g1)
      have N37 : ∀ j : Int, j < 51 ∨ 65 < j → N3 76 j = m' 76 j := fun x hx => (r8 x hx).trans (N27 x (by omega))
      have CB : jd_117_b100 9 (some c) k (some p) N q (8 * base + i) way 0 (hh s Q J2) = jd_117_b122 9 (some c) k (some p) N q (8 * base + i) way f (hh s Q J3) := by
        unfold jd_117_b100
        rw [if_pos (by decide), y_gr L 9 8 rfl rfl, Option.bind_some, qq1, Option.bind_some, y_ck L 11 5 rfl rfl, Option.bind_some, c_76 FT (by rw [J2o 11 (by decide)]; exact J110) kd0 kd2 v0 (by omega), Option.bind_some, y_ck L 9 8 rfl rfl, Option.bind_some, r1, Option.bind_some]
      rw [CB, r2]
      by_cases cf : f = 0
      · obtain ⟨V, i', w1, w2, ⟨w30, w31, w32, w33, w34, w35, w36, w37⟩, w4, w5, w6⟩ := r10 cf
        have J3p : J3 p = I p := (J3o p (by omega) (by omega) (by omega)).trans ((Jo p (by omega) (by omega) (by omega)).trans gp)
        -- laid
        obtain ⟨G9, e93, hG9⟩ := c_93 (I := J3) (T := 11) (X := q % (w / 8)) (Y := q / (w / 8)) FT P (by rw [J3p]; exact hw) (by rw [J3p]; exact hv) sw sh (by rw [J3o 11 (by decide) (by decide) (by decide)]; exact J115) (by rw [J3o 11 (by decide) (by decide) (by decide)]; exact J116) mr.1 mr.2.1 mr.2.2.1 mr.2.2.2.1
        obtain ⟨J4, hJ4⟩ : ∃ z, z = ims J3 (p + 1) G9 := ⟨_, rfl⟩
        have J4o : ∀ a : Nat, a ≠ p + 1 → J4 a = J3 a := fun a ha => by rw [hJ4]; exact ims_o ha
        have e93' : jd_93 11 (some p) (some 14) 1 (hh s Q J3) = some (hh s Q J4) := by rw [hJ4]; exact e93
        have J410 : J4 10 ((1 : Nat) : Int) = 8 * base + i' := by rw [J4o 10 (by omega)]; exact w6.1.2.2.2.2.1
        obtain ⟨GA, eA, a1', a2', a3', a4', a5'⟩ := c_118 (I := J4) (a := c + 12) (z := (k * 9 + q) * 7) (way := way) (bc := 8 * base + i' - (8 * base + i)) L h6 (by rw [J4o 15 (by omega)]; exact w2) c12.1 c12.2.1 c12l (by omega) (by omega) (by omega)
        obtain ⟨J5, hJ5⟩ : ∃ z, z = ims J4 (c + 12) GA := ⟨_, rfl⟩
        rw [← hJ5] at eA
        have J5o : ∀ a : Nat, a ≠ c + 12 → J5 a = J4 a := fun a ha => by rw [hJ5]; exact ims_o ha
        have J5c : J5 (c + 12) = GA := by rw [hJ5, ims_e]
        have J4c : J4 (c + 12) = I' (c + 12) := by rw [J4o (c + 12) c12p, J3o (c + 12) (by omega) (by omega) (by omega), Jo (c + 12) (by omega) (by omega) (by omega)]
        rw [J4c] at a5'
        have J416 : J4 16 = J3 16 := J4o 16 (by omega)
        have J415 : J4 15 = J3 15 := J4o 15 (by omega)
        rw [J416] at a2'
        rw [J415] at a3'
        refine ⟨0, J5, N3, rfl, by rw [r3]; exact cf, by decide, by decide, ?_, ?_, fun _ => ⟨⟨fun a g1 g2 g3 => ?_, ?_, fun a g1 g2 g3 g4 => (N3o a g1 g2 g3 g4).trans (S3 a g1 g2 g3 g4), fun x hx => (N37 x hx).trans (S4 x hx), fun pl x y p0 p2 x0 x1 y0 y1 hl => ?_, fun x hx => ?_, fun r z g1 g2 g3 g4 => ?_, fun x hx => ?_⟩, fun _ x x0 x1 => ?_, i', ?_⟩, fun e => absurd rfl e⟩
        · rw [if_pos rfl]
          unfold jd_117_b122
          rw [cf, if_pos (by decide), y_gr L 9 8 rfl rfl, Option.bind_some, Option.bind_some, qq1, Option.bind_some, y_gr L 11 5 rfl rfl, Option.bind_some, Option.bind_some, y_ck L 11 5 rfl rfl, Option.bind_some, qq9, e93', Option.bind_some, Option.bind_some, G_gr F, Option.bind_some, q18, y_gr L 9 8 rfl rfl, Option.bind_some, qq0, Option.bind_some, y_gi L 10 0 rfl rfl, Option.bind_some, J410, y_ck L 9 8 rfl rfl, Option.bind_some, show c + (11 + 1) = c + 12 from rfl, eA, Option.bind_some]
        · rw [J5o 9 (by omega), J4o 9 (by omega), J3o 9 (by decide) (by decide) (by decide)]
          exact J9
        · rw [J5o a g3, J4o a g2, J3o a (by omega) (by omega) (by omega), Jo a (by omega) (by omega) (by omega)]
          exact S1 a g1 g2 g3
        · rw [J5o 11 (by omega), J4o 11 (by omega), J3o 11 (by decide) (by decide) (by decide), J110, J111, eK, est]
          exact ⟨rfl, rfl⟩
        · have J5p : J5 (p + 1) = G9 := by rw [J5o (p + 1) (fun e => c12p e.symm), hJ4, ims_e]
          rw [J5p]
          have pq := prt_q (pl := pl) (x := x) (y := y) sw p0 p2 x0 x1 y0 mr.1 mr.2.1 de
          have hg := hG9 pl x y p0 p2 x0 x1 y0 y1
          have w4' := w4 pl x y p0 p2 x0 x1 y0 y1
          by_cases hin : inP pl (q % (w / 8)) (q / (w / 8)) x y
          · rw [hg.1 hin]
            exact w4'.1 hin
          · have nq : y / sdOf pl * (w / 8) + x / sdOf pl ≠ q := fun e => hin (pq.1 e)
            rw [hg.2 hin, w4'.2 hin, J3o (p + 1) (by omega) (by omega) (by omega), Jo (p + 1) (by omega) (by omega) (by omega), N2o 109 (by decide)]
            exact S5 pl x y p0 p2 x0 x1 y0 y1 (by omega)
        · rw [w5 x hx, N2o 109 (by decide)]
          exact S6 x hx
        · rw [J5c]
          by_cases cr : r = q
          · subst cr
            have hz : z = 0 ∨ (1 ≤ z ∧ z ≤ 4) ∨ z = 5 ∨ z = 6 := by omega
            rcases hz with e | e | e | e
            · rw [e, Int.add_zero, Int.add_zero, w31, a1']
            · have a2'' := a2' (z - 1) (by omega) (by omega)
              have wv := (w1 (z - 1) (by omega) (by omega)).2.2
              rw [show (k * 9 + r) * 7 + 1 + (z - 1) = (k * 9 + r) * 7 + z by omega] at a2''
              rw [a2'', wv]
              have hz' : z = 1 ∨ z = 2 ∨ z = 3 ∨ z = 4 := by omega
              rcases hz' with e' | e' | e' | e'
              · rw [e', w32]; rfl
              · rw [e', w33]; rfl
              · rw [e', w34]; rfl
              · rw [e', w35]; rfl
            · rw [e, w36, a3']
            · rw [e, w37, a4']; omega
          · rw [w30 _ (by omega), a5' _ (by omega), N2o 111 (by decide)]
            exact S7 r z g1 (by omega) g3 g4
        · rw [w30 x (by omega), J5c, a5' x (by omega), N2o 111 (by decide)]
          exact S8 x hx
        · rw [J5o 16 (by omega), J416]
          have wv := w1 x x0 x1
          rw [wv.2.2]
          refine ⟨wv.1, wv.2.1, ?_⟩
          have hx' : x = 0 ∨ x = 1 ∨ x = 2 ∨ x = 3 := by omega
          rw [show q + 1 - 1 = q by omega]
          rcases hx' with e' | e' | e' | e'
          · rw [e', Int.add_zero, w32]
          · rw [e', show 63 * k + 7 * q + 1 + 1 = 63 * k + 7 * q + 2 by omega, w33]
          · rw [e', show 63 * k + 7 * q + 1 + 2 = 63 * k + 7 * q + 3 by omega, w34]
          · rw [e', show 63 * k + 7 * q + 1 + 3 = 63 * k + 7 * q + 4 by omega, w35]
        · have Ac : A ≠ c + 12 := fun e => by
            have a1 := w6.1.2.1.2.1
            rw [e, c12.2.1] at a1
            exact absurd a1 (by decide)
          exact BM_fr w6 (by rw [J5o A Ac, J4o A (BM_Ap w6 P)]) (by rw [J5o 10 (by omega), J4o 10 (by omega)]) (by rw [J5o 10 (by omega), J4o 10 (by omega)]) rfl rfl rfl rfl rfl
      · obtain ⟨k1', k2'⟩ := r9 cf
        have ff := fail f J3 N3 J3o N3o N37 (k1'.trans (N2o 109 (by decide))) (k2'.trans (N2o 111 (by decide)))
        refine ⟨f, J3, N3, rfl, r3, r4, r5, ?_, ff.2, fun e => absurd e cf, fun _ => ff.1⟩
        unfold jd_117_b122
        rw [n_jw (z := f) (by omega) (by omega), if_neg cf, if_neg cf]
    · unfold jd_231 jd_231_b12
      rw [if_neg cw, if_neg cw, if_pos (BM_b0 RN), Option.bind_some, Option.bind_some, bad 2 J2 way (by decide) (by decide), b66 2 (jms N2 76 52 2) jms_e (by decide) (by decide)]
      have ff := fail 2 J2 (jms N2 76 52 2) (fun a g1 _ _ => J2o a g1) (fun a g1 _ _ _ => by rw [jms_o g1]; exact N2o a g1) (fun x hx => by rw [jms_i (by omega)]; exact N27 x (by omega)) (by rw [jms_o (by decide)]; exact N2o 109 (by decide)) (by rw [jms_o (by decide)]; exact N2o 111 (by decide))
      exact ⟨2, J2, _, rfl, jms_e, by decide, by decide, by rw [if_neg (by decide)], ff.2, fun e => absurd e (by decide), fun _ => ff.1⟩
  · obtain ⟨J2, hJ2⟩ : ∃ z, z = jms (jms J 10 1 j) 10 3 f := ⟨_, rfl⟩
    obtain ⟨N2, hN2⟩ : ∃ z, z = jms (jms (jms M0 76 51 j') 76 52 f) 76 60 0 := ⟨_, rfl⟩
    have n52 : N2 76 52 = f := by rw [hN2, jms_i (by decide), jms_e]
    have i3 : J2 10 ((3 : Nat) : Int) = f := by rw [hJ2]; exact jms_e
    rw [c1, Option.bind_some, c2, Option.bind_some, Option.bind_some, ← hJ2]
    dsimp only
    rw [← hN2, n_jw (z := v) (by omega) (by omega), if_neg (show ¬ 0 ≤ v by omega), if_neg (br_0 n52 (by omega) (by omega)), y_gr L 9 8 rfl rfl, Option.bind_some, qq0, Option.bind_some, y_gi L 10 0 rfl rfl, Option.bind_some, i3, bad f J2 v (by omega) (by omega), b66 f N2 n52 (by omega) (by omega)]
    have ff := fail f J2 N2 (fun a g1 _ _ => by rw [hJ2, jms_o g1, jms_o g1]) (fun a g1 _ _ _ => by rw [hN2, jms_o g1, jms_o g1, jms_o g1]; exact M0o a g1) (fun x hx => by rw [hN2, jms_i (by omega), jms_i (by omega), jms_i (by omega)]; exact M07 x (by omega)) (by rw [hN2, jms_o (by decide), jms_o (by decide), jms_o (by decide)]; exact M0o 109 (by decide)) (by rw [hN2, jms_o (by decide), jms_o (by decide), jms_o (by decide)]; exact M0o 111 (by decide))
    exact ⟨f, J2, N2, rfl, n52, by omega, by omega, by rw [if_neg (by omega)], ff.2, fun e => absurd e (by omega), fun _ => ff.1⟩
end PStep2
