/-! the end of a part, on both sides: vectors taken, foretold, made, laid -/
section PTail2
variable {s : hS} {Q : hQ} {hm : hO} {I m : jM} {A p b1 b2 : Nat} {base i en w h k q md kd st x3 way a1 a2 : Int} {V : Int → Int}
theorem k_266 {v5 v6 : Int} (k0 : 0 ≤ k) (k1 : k < 12) (q0 : 0 ≤ q) (q1 : q < 9) : ∃ m', jd_266 k q v6 m = some m' ∧ (∀ a : Nat, a ≠ 111 → m' a = m a) ∧ (∀ j : Int, j < 63 * k + 7 * q ∨ 63 * k + 7 * q + 7 ≤ j → m' 111 j = m 111 j) ∧ m' 111 (63 * k + 7 * q) = m 76 60 ∧ m' 111 (63 * k + 7 * q + 1) = m 76 62 ∧ m' 111 (63 * k + 7 * q + 2) = m 76 63 ∧ m' 111 (63 * k + 7 * q + 3) = m 76 64 ∧ m' 111 (63 * k + 7 * q + 4) = m 76 65 ∧ m' 111 (63 * k + 7 * q + 5) = m 76 59 ∧ m' 111 (63 * k + 7 * q + 6) = v6 := by
  obtain ⟨z, hz⟩ : ∃ z, 63 * k + 7 * q = z := ⟨_, rfl⟩
  have z0 : 0 ≤ z ∧ z + 7 ≤ 756 := by omega
  unfold jd_266
  rw [hz]
  have o : ∀ (M : jM) (j v : Int), jms M 111 j v 76 = M 76 := fun M j v => jms_o (by decide)
  rw [y_mw 111 756 rfl rfl (by omega) (by omega), Option.bind_some, y_mw 111 756 rfl rfl (by omega) (by omega), Option.bind_some, y_mw 111 756 rfl rfl (by omega) (by omega), Option.bind_some, y_mw 111 756 rfl rfl (by omega) (by omega), Option.bind_some, y_mw 111 756 rfl rfl (by omega) (by omega), Option.bind_some, y_mw 111 756 rfl rfl (by omega) (by omega), Option.bind_some, y_mw 111 756 rfl rfl (by omega) (by omega), Option.bind_some, o, o, o, o, o]
  refine ⟨_, rfl, fun a ha => ?_, fun j hj => ?_, ?_, ?_, ?_, ?_, ?_, ?_, jms_e⟩
  · rw [jms_o ha, jms_o ha, jms_o ha, jms_o ha, jms_o ha, jms_o ha, jms_o ha]
  · rw [jms_i (by omega), jms_i (by omega), jms_i (by omega), jms_i (by omega), jms_i (by omega), jms_i (by omega), jms_i (by omega)]
  · rw [jms_i (by omega), jms_i (by omega), jms_i (by omega), jms_i (by omega), jms_i (by omega), jms_i (by omega), jms_e]
  · rw [jms_i (by omega), jms_i (by omega), jms_i (by omega), jms_i (by omega), jms_i (by omega), jms_e]
  · rw [jms_i (by omega), jms_i (by omega), jms_i (by omega), jms_i (by omega), jms_e]
  · rw [jms_i (by omega), jms_i (by omega), jms_i (by omega), jms_e]
    simp only [o]
  · rw [jms_i (by omega), jms_i (by omega), jms_e]
    simp only [o]
  · rw [jms_i (by omega), jms_e]
    simp only [o]
theorem ptail (L : Lay s Q hm) (h6 : s.1 ≤ 1000000) (P : PcC s Q p) (q2T : Q 11 2 = some p) (hw : I p 0 = w) (hv : I p 1 = h) (sw : isSd w) (sh : isSd h) (mw : m 76 33 = w) (mh : m 76 34 = h) (k0 : 0 ≤ k) (k1 : k < 12) (q0 : 0 ≤ q) (q1 : q < w / 8 * (h / 8)) (eX : I 11 5 = q % (w / 8)) (eY : I 11 6 = q / (w / 8)) (eK : I 11 0 = kd) (mk : m 102 k = kd) (kd0 : 0 ≤ kd) (kd2 : kd ≤ 2) (m0 : 0 ≤ md) (m6 : md ≤ 6) (est : I 11 1 = st) (st0 : 0 ≤ st) (st1 : st ≤ 255) (vb : ∀ j : Int, 0 ≤ j → j < 4 → -16 ≤ V j ∧ V j ≤ 16) (hV : ∀ j : Int, 0 ≤ j → j < 4 → (if ¬ jw (jd_77 md j) = 0 then I 41 j else if md = 0 ∧ kd = 1 ∧ j < 2 then I 17 j else 0) = V j) (e61 : m 76 61 = hwm md kd) (e62 : m 76 62 = V 0) (e63 : m 76 63 = V 1) (e64 : m 76 64 = V 2) (e65 : m 76 65 = V 3) (e60 : m 76 60 = way) (e59 : m 76 59 = lcs (I 15) 6) (lb : ∀ j : Int, 0 ≤ j → j < 96 → -4095 ≤ I 15 j ∧ I 15 j ≤ 4095) (rs : ∀ b r c : Int, 0 ≤ b → b < 6 → 0 ≤ r → r < 4 → 0 ≤ c → c < 4 → m 115 (cb b r c) = rsB (fun i => I 15 (16 * b + i)) st r c) (R : BM s Q I m 10 A base i en) (E : PrtE p w h k q I m) (Rf : Rfs s Q I m b1 b2 w h k kd (hwm md kd) a1 a2) : ∃ I2 I3 I4 I5 m', jd_78 11 md (some 41) (hh s Q I) = some (hh s Q I2) ∧ jd_79 11 md (hh s Q I2) = some (hh s Q I3) ∧ jd_90 11 (hh s Q I3) = some (hh s Q I4) ∧ jd_119_l168 9 0 (hh s Q I4) = some (hh s Q I5) ∧ jd_265_b280 k q x3 m = some m' ∧ (∀ a : Nat, a ≠ 12 → a ≠ 13 → a ≠ 14 → a ≠ 16 → a ≠ 18 → a ≠ 19 → a ≠ 20 → I5 a = I a) ∧ (∀ j : Int, 0 ≤ j → j < 4 → I5 16 j = V j) ∧ (∀ a : Nat, a ≠ 109 → a ≠ 111 → a ≠ 114 → m' a = m a) ∧ ((∀ j : Int, j < 63 * k + 7 * q ∨ 63 * k + 7 * q + 7 ≤ j → m' 111 j = m 111 j) ∧ m' 111 (63 * k + 7 * q) = way ∧ m' 111 (63 * k + 7 * q + 1) = V 0 ∧ m' 111 (63 * k + 7 * q + 2) = V 1 ∧ m' 111 (63 * k + 7 * q + 3) = V 2 ∧ m' 111 (63 * k + 7 * q + 4) = V 3 ∧ m' 111 (63 * k + 7 * q + 5) = lcs (I 15) 6 ∧ m' 111 (63 * k + 7 * q + 6) = i - x3) ∧ (∀ pl x y : Int, 0 ≤ pl → pl ≤ 2 → 0 ≤ x → x < pw w pl → 0 ≤ y → y < pw h pl → (inP pl (q % (w / 8)) (q / (w / 8)) x y → I5 14 (ppb pl + ((y - q / (w / 8) * sdOf pl) * sdOf pl + (x - q % (w / 8) * sdOf pl))) = m' 109 (864 * k + (pf pl + (y * pw w pl + x))) ∧ 0 ≤ m' 109 (864 * k + (pf pl + (y * pw w pl + x))) ∧ m' 109 (864 * k + (pf pl + (y * pw w pl + x))) ≤ 255) ∧ (¬ inP pl (q % (w / 8)) (q / (w / 8)) x y → m' 109 (864 * k + (pf pl + (y * pw w pl + x))) = m 109 (864 * k + (pf pl + (y * pw w pl + x))))) ∧ (∀ j : Int, j < 864 * k ∨ 864 * k + 864 ≤ j → m' 109 j = m 109 j) ∧ BM s Q I5 m' 10 A base i en := by
  have F := PtC_11 L
  have P1 := P.1
  have mr := mm_r sw sh q0 q1
  have de := dm_e (w / 8) q
  obtain ⟨X, hX⟩ : ∃ z, q % (w / 8) = z := ⟨_, rfl⟩
  obtain ⟨Y, hY⟩ : ∃ z, q / (w / 8) = z := ⟨_, rfl⟩
  obtain ⟨how, hhow⟩ : ∃ z, hwm md kd = z := ⟨_, rfl⟩
  have how5 : 0 ≤ how ∧ how ≤ 5 ∧ (how < 3 ↔ 4 ≤ md) := by
    have t := hw_t m0 m6 kd0 kd2
    rw [hhow] at t
    by_cases c : 4 ≤ md
    · have := (t.2.2.1 c).1; omega
    · have := (t.2.2.2 (by omega)).2.2; omega
  rw [hX, hY] at mr de
  rw [hX] at eX
  rw [hY] at eY
  rw [hhow] at e61 Rf
  rw [hX, hY]
  obtain ⟨Rf0, Rf1, Rf2⟩ := Rf
  -- vectors
  obtain ⟨G, e78, hG⟩ := c_78 (I := I) (T := 11) (c := 41) (md := md) L F h6 eK kd0 kd2 m0 m6 rfl rfl (by decide)
  obtain ⟨I2, hI2⟩ : ∃ J, J = ims I 16 G := ⟨_, rfl⟩
  have e78' : jd_78 11 md (some 41) (hh s Q I) = some (hh s Q I2) := by rw [hI2]; exact e78
  have o2 : ∀ a : Nat, a ≠ 16 → I2 a = I a := fun a ha => by rw [hI2]; exact ims_o ha
  have v2 : ∀ j : Int, 0 ≤ j → j < 4 → I2 16 j = V j := fun j j0 j1 => by rw [hI2, ims_e, hG j j0 j1]; exact hV j j0 j1
  -- foretold
  have nb := fun pl p0 p2 => prt_nb (pl := pl) sw sh mr.1 mr.2.1 mr.2.2.1 mr.2.2.2.1 de E p0 p2
  obtain ⟨I3, e79, O3, hv3⟩ := c_79 (I := I2) (T := 11) (b1 := b1) (b2 := b2) (md := md) (kd := kd) (v0 := V 0) (v1 := V 1) (v2 := V 2) (v3 := V 3) F h6 P q2T (by rw [o2 p (by omega)]; exact hw) (by rw [o2 p (by omega)]; exact hv) sw sh (by rw [o2 11 (by decide)]; exact eK) kd0 kd2 (by rw [o2 11 (by decide)]; exact eX) (by rw [o2 11 (by decide)]; exact eY) mr.1 mr.2.1 mr.2.2.1 mr.2.2.2.1 m0 m6 (fun _ pl p0 p2 => by
    rw [o2 (p + 1) (by omega)]
    exact nbB_E (nb pl p0 p2).1 (nb pl p0 p2).2) (v2 0 (by decide) (by decide)) (v2 1 (by decide) (by decide)) (v2 2 (by decide) (by decide)) (v2 3 (by decide) (by decide)) (vb 0 (by decide) (by decide)) (vb 1 (by decide) (by decide)) (vb 2 (by decide) (by decide)) (vb 3 (by decide) (by decide)) (fun e => by
    rw [hhow] at e
    obtain ⟨q3, B⟩ := Rf1 e
    have b153 := B.1.1
    have S := RfE_S B
    exact ⟨q3, S.1, by rw [o2 b1 (by omega)]; exact S.2.1, by rw [o2 b1 (by omega)]; exact S.2.2.1, by rw [o2 (b1 + 1) (by omega)]; exact S.2.2.2⟩) (fun e => by
    rw [hhow] at e
    obtain ⟨q3, B, -⟩ := Rf2 e
    have b153 := B.1.1
    have S := RfE_S B
    exact ⟨q3, S.1, by rw [o2 b2 (by omega)]; exact S.2.1, by rw [o2 b2 (by omega)]; exact S.2.2.1, by rw [o2 (b2 + 1) (by omega)]; exact S.2.2.2⟩)
  rw [hhow] at hv3
  have o3 : ∀ a : Nat, a ≠ 12 → a ≠ 13 → a ≠ 16 → a ≠ 19 → a ≠ 20 → I3 a = I a := fun a h1 h2 h3 h4 h5 => (O3 a h1 h2 h4 h5).trans (o2 a h3)
  -- the model foretells
  have RM : RfM m w h k kd how a1 a2 := ⟨mk, kd0, kd2, Rf0, fun e => by
    obtain ⟨-, B⟩ := Rf1 e
    exact ⟨B.2.2.2.1, B.2.2.2.2.1, fun pl j c1 c2 c3 c4 => (B.2.2.2.2.2 pl j c1 c2 c3 c4).2⟩, fun e => by
    obtain ⟨-, B, C⟩ := Rf2 e
    exact ⟨C, B.2.2.2.1, B.2.2.2.2.1, fun pl j c1 c2 c3 c4 => (B.2.2.2.2.2 pl j c1 c2 c3 c4).2⟩⟩
  obtain ⟨m1, e266, f1, g0, g1, g2, g3, g4, g5, g6, g7⟩ := k_266 (m := m) (v6 := m 76 51 - x3) (v5 := 0) k0 k1 q0 (by omega)
  have n76 : m1 76 = m 76 := f1 76 (by decide)
  have n109 : m1 109 = m 109 := f1 109 (by decide)
  have n102 : m1 102 = m 102 := f1 102 (by decide)
  have RM1 : RfM m1 w h k kd how a1 a2 := by
    unfold RfM
    rw [n102, n109, n76]
    exact RM
  obtain ⟨G4, e247, hG4⟩ := k_247 (m := m1) (mm := q) (how := how) (fx := V 0) (fy := V 1) (bx := V 2) (by' := V 3) (a1 := a1) (a2 := a2) (kd := kd) sw sh (by rw [n76]; exact mw) (by rw [n76]; exact mh) k0 k1 q0 q1 how5.1 how5.2.1 RM1 (vb 0 (by decide) (by decide)) (vb 1 (by decide) (by decide)) (vb 2 (by decide) (by decide)) (vb 3 (by decide) (by decide)) (fun _ pl p0 p2 => by
    rw [n109, hX, hY]
    exact (nb pl p0 p2).2)
  rw [n109, hX, hY] at hG4
  have same : ∀ z : Int, 0 ≤ z → z < 96 → I3 12 z = G4 z ∧ 0 ≤ G4 z ∧ G4 z ≤ 255 := fun z z0 z1 => by
    obtain ⟨pl, r, c, p0, p2, r0, r1, c0, c1, rfl⟩ := pl_cell z0 z1
    have bw := pw_sd sw pl
    have bh := pw_sd sh pl
    have pp := ppb_b p0 p2
    have A1 := hv3 pl r c p0 p2 r0 r1 c0 c1
    have A2 := hG4 pl r c p0 p2 r0 r1 c0 c1
    have A3 : I3 12 (ppb pl + (r * sdOf pl + c)) = pvV how (fun j => I2 (p + 1) (pb w h pl + j)) (fun j => I2 (b1 + 1) (pb w h pl + j)) (fun j => I2 (b2 + 1) (pb w h pl + j)) (pw w pl) (pw h pl) (X * sdOf pl) (Y * sdOf pl) (sdOf pl) (hvf pl (V 0)) (hvf pl (V 1)) (hvf pl (V 2)) (hvf pl (V 3)) r c := A1
    rw [A3, A2]
    refine ⟨pvV_c (by omega) (by omega) (by omega) r0 r1 c0 c1 (fun _ => ?_) (fun e j j0 j1 => ?_) (fun e j j0 j1 => ?_) how5.2.1, pvV_b (by omega) (by omega) (by omega) r0 r1 c0 c1 (fun _ => (nb pl p0 p2).2) (fun e j j0 j1 => ?_) (fun e j j0 j1 => ?_) how5.2.1⟩
    · rw [o2 (p + 1) (by omega)]
      exact (nb pl p0 p2).1
    · obtain ⟨-, B⟩ := Rf1 e
      have b153 := B.1.1
      rw [o2 (b1 + 1) (by omega)]
      exact (B.2.2.2.2.2 pl j p0 p2 j0 j1).1
    · obtain ⟨-, B, -⟩ := Rf2 e
      have b153 := B.1.1
      rw [o2 (b2 + 1) (by omega)]
      exact (B.2.2.2.2.2 pl j p0 p2 j0 j1).1
    · exact ((Rf1 e).2.2.2.2.2.2 pl j p0 p2 j0 j1).2
    · exact ((Rf2 e).2.1.2.2.2.2.2 pl j p0 p2 j0 j1).2
  -- made
  have J15 : I3 15 = I 15 := o3 15 (by decide) (by decide) (by decide) (by decide) (by decide)
  obtain ⟨I4, I5, e90, e168, o5, hm5⟩ := c_made (I := I3) (st := st) L h6 (by rw [o3 11 (by decide) (by decide) (by decide) (by decide) (by decide)]; exact est) (by rw [J15]; exact lb) (fun z z0 z1 => by
    have := same z z0 z1
    rw [this.1]; exact this.2)
  rw [J15] at hm5
  -- laid
  obtain ⟨G9, e267, l1, l2⟩ := k_267 (m := ims m1 114 G4) (mm := q) (X := X) (Y := Y) sw sh (by rw [ims_o (by decide), n76]; exact mw) k0 k1 q0 q1 hX hY
  obtain ⟨m', hm'⟩ : ∃ z, z = ims (ims m1 114 G4) 109 G9 := ⟨_, rfl⟩
  have e114 : ims m1 114 G4 114 = G4 := ims_e
  have e115 : ims m1 114 G4 115 = m 115 := (ims_o (by decide)).trans (f1 115 (by decide))
  have e109 : ims m1 114 G4 109 = m 109 := (ims_o (by decide)).trans n109
  rw [e114, e115, e109] at l1
  rw [e109] at l2
  have p109 : m' 109 = G9 := by rw [hm', ims_e]
  have p111 : m' 111 = m1 111 := by rw [hm', ims_o (by decide), ims_o (by decide)]
  have pO : ∀ a : Nat, a ≠ 109 → a ≠ 111 → a ≠ 114 → m' a = m a := fun a c1 c2 c3 => by rw [hm', ims_o c1, ims_o c3]; exact f1 a c2
  have o5' : ∀ a : Nat, a ≠ 12 → a ≠ 13 → a ≠ 14 → a ≠ 16 → a ≠ 18 → a ≠ 19 → a ≠ 20 → I5 a = I a := fun a c1 c2 c3 c4 c5 c6 c7 => (o5 a c3 c5).trans (o3 a c1 c2 c4 c6 c7)
  have b51 : m 76 51 = i := R.2.1.2.2.2.1
  refine ⟨I2, I3, I4, I5, m', e78', e79, e90, e168, ?_, o5', fun j j0 j1 => ?_, pO, ⟨fun j hj => by rw [p111]; exact g0 j hj, by rw [p111, g1]; exact e60, by rw [p111, g2]; exact e62, by rw [p111, g3]; exact e63, by rw [p111, g4]; exact e64, by rw [p111, g5]; exact e65, by rw [p111, g6]; exact e59, by rw [p111, g7, b51]⟩, fun pl x y p0 p2 x0 x1 y0 y1 => ⟨fun hin => ?_, fun ho => ?_⟩, fun j hj => by rw [p109]; exact l2 j hj, ?_⟩
  · unfold jd_265_b280
    rw [if_pos (BM_b1 R), e266, Option.bind_some, n76, e61, e62, e63, e64, e65, e247, Option.bind_some, e267, Option.bind_some, hm']
  · rw [o5 16 (by decide) (by decide), O3 16 (by decide) (by decide) (by decide) (by decide)]
    exact v2 j j0 j1
  · have pp := ppb_b p0 p2
    obtain ⟨i1, i2, i3, i4⟩ := id hin
    have rc := sd_rc (sd := sdOf pl) (r := y - Y * sdOf pl) (c := x - X * sdOf pl) (by omega) (by omega) (by omega) (by omega)
    have zz := (l1 pl x y p0 p2 x0 x1 y0 y1).1 hin
    rw [p109, zz]
    obtain ⟨z, hz⟩ : ∃ z, z = ppb pl + ((y - Y * sdOf pl) * sdOf pl + (x - X * sdOf pl)) := ⟨_, rfl⟩
    rw [← hz]
    have zr : 0 ≤ z ∧ z < 96 := by omega
    obtain ⟨b, r, c, b0, b6, r0, r4, c0, c4, rfl⟩ := cb_all zr.1 zr.2
    have S := same _ zr.1 zr.2
    have rb := rsB_b (lv := fun i => I 15 (16 * b + i)) (st := st) (fun j j0 j1 => lb _ (by omega) (by omega)) st0 st1 r c
    rw [hm5 b r c b0 b6 r0 r4 c0 c4, rs b r c b0 b6 r0 r4 c0 c4, S.1]
    exact held_b (by omega) (by omega) |>.imp (fun e => e) (fun e => by rw [← (held_b (v := G4 (cb b r c) + rsB (fun i => I 15 (16 * b + i)) st r c) (by omega) (by omega)).1]; exact e)
  · rw [p109]
    exact (l1 pl x y p0 p2 x0 x1 y0 y1).2 ho
  · exact BM_fr R (o5' A (BM_A L R rfl (by decide)) (BM_A L R rfl (by decide)) (BM_A L R rfl (by decide)) (BM_A L R rfl (by decide)) (BM_A L R rfl (by decide)) (BM_A L R rfl (by decide)) (BM_A L R rfl (by decide))) (by rw [o5' 10 (by decide) (by decide) (by decide) (by decide) (by decide) (by decide) (by decide)]) (by rw [o5' 10 (by decide) (by decide) (by decide) (by decide) (by decide) (by decide) (by decide)]) (by rw [pO 76 (by decide) (by decide) (by decide)]) (by rw [pO 76 (by decide) (by decide) (by decide)]) (by rw [pO 76 (by decide) (by decide) (by decide)]) (by rw [pO 76 (by decide) (by decide) (by decide)]) (pO 112 (by decide) (by decide) (by decide))
end PTail2
