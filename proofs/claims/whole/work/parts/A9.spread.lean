/-! mean and spread: the class; the mean of the model -/
def sprd (how : Int) (g : Int → Int) (W x0 y0 sd r c : Int) : Int := if how = 0 then mnV g W x0 y0 sd else if how = 1 then (if 0 < x0 then g ((y0 + r) * W + (x0 - 1)) else 128) else (if 0 < y0 then g ((y0 - 1) * W + (x0 + c)) else 128)
/-- what lies above and on the left of a part is alike, or within bounds -/
def nbB (g : Int → Int) (W x0 y0 sd : Int) : Prop := (∀ i : Int, 0 ≤ i → i < sd → 0 < y0 → 0 ≤ g ((y0 - 1) * W + (x0 + i)) ∧ g ((y0 - 1) * W + (x0 + i)) ≤ 255) ∧ (∀ i : Int, 0 ≤ i → i < sd → 0 < x0 → 0 ≤ g ((y0 + i) * W + (x0 - 1)) ∧ g ((y0 + i) * W + (x0 - 1)) ≤ 255)
def nbE (g g' : Int → Int) (W x0 y0 sd : Int) : Prop := (∀ i : Int, 0 ≤ i → i < sd → 0 < y0 → g ((y0 - 1) * W + (x0 + i)) = g' ((y0 - 1) * W + (x0 + i))) ∧ (∀ i : Int, 0 ≤ i → i < sd → 0 < x0 → g ((y0 + i) * W + (x0 - 1)) = g' ((y0 + i) * W + (x0 - 1)))
theorem mnV_c {g g' : Int → Int} {W x0 y0 sd : Int} (s0 : 0 ≤ sd) (e : nbE g g' W x0 y0 sd) : mnV g W x0 y0 sd = mnV g' W x0 y0 sd := by
  unfold mnV
  rw [mnS_c (fun i h0 h1 => e.1 i h0 (by omega)) (fun i h0 h1 => e.2 i h0 (by omega))]
theorem sprd_c {g g' : Int → Int} {how W x0 y0 sd r c : Int} (s0 : 0 ≤ sd) (r0 : 0 ≤ r) (r1 : r < sd) (c0 : 0 ≤ c) (c1 : c < sd) (e : nbE g g' W x0 y0 sd) : sprd how g W x0 y0 sd r c = sprd how g' W x0 y0 sd r c := by
  unfold sprd
  rw [mnV_c s0 e]
  by_cases a : 0 < x0
  · rw [if_pos a, if_pos a, e.2 r r0 r1 a]
    by_cases b : 0 < y0
    · rw [if_pos b, if_pos b, e.1 c c0 c1 b]
    · rw [if_neg b, if_neg b]
  · rw [if_neg a, if_neg a]
    by_cases b : 0 < y0
    · rw [if_pos b, if_pos b, e.1 c c0 c1 b]
    · rw [if_neg b, if_neg b]
theorem mnV_b {g : Int → Int} {W x0 y0 sd : Int} (s0 : 0 ≤ sd) (e : nbB g W x0 y0 sd) : 0 ≤ mnV g W x0 y0 sd ∧ mnV g W x0 y0 sd ≤ 255 := by
  have b := mnS_b (g := g) (W := W) (x0 := x0) (y0 := y0) (n := sd.toNat) (fun i h0 h1 => e.1 i h0 (by omega)) (fun i h0 h1 => e.2 i h0 (by omega))
  rw [show ((sd.toNat : Nat) : Int) = sd by omega] at b
  have c0 : 0 ≤ mnC x0 y0 sd := by unfold mnC; split <;> split <;> omega
  unfold mnV
  generalize mnC x0 y0 sd = C at b c0
  generalize mnS g W x0 y0 sd.toNat = S at b
  by_cases c : C = 0
  · rw [if_pos c]; omega
  · rw [if_neg c]
    have p : 0 < C := by omega
    have h1 : 0 ≤ (S + C / 2) / C := Int.ediv_nonneg (by omega) (by omega)
    have h2 : (S + C / 2) / C < 256 := by
      rw [Int.ediv_lt_iff_lt_mul p]
      omega
    omega
theorem sprd_b {g : Int → Int} {how W x0 y0 sd r c : Int} (s0 : 0 ≤ sd) (r0 : 0 ≤ r) (r1 : r < sd) (c0 : 0 ≤ c) (c1 : c < sd) (e : nbB g W x0 y0 sd) : 0 ≤ sprd how g W x0 y0 sd r c ∧ sprd how g W x0 y0 sd r c ≤ 255 := by
  have b := mnV_b s0 e
  unfold sprd
  split
  · exact b
  · split
    · split
      · exact e.2 r r0 r1 (by assumption)
      · decide
    · split
      · exact e.1 c c0 c1 (by assumption)
      · decide
section Spread
variable {s : hS} {Q : hQ} {hm : hO} {I m : jM} {T p : Nat} {w h k pl X Y W sd pB : Int}
theorem mnC_s {x0 y0 n : Int} : mnC x0 y0 (n + 1) = mnC x0 y0 n + (if 0 < y0 then 1 else 0) + (if 0 < x0 then 1 else 0) := by
  unfold mnC
  split <;> split <;> omega
theorem k_248 (sw : isSd w) (sh : isSd h) (mw : m 76 33 = w) (k0 : 0 ≤ k) (k1 : k < 12) (p0 : 0 ≤ pl) (p2 : pl ≤ 2) (X0 : 0 ≤ X) (X1 : X < w / 8) (Y0 : 0 ≤ Y) (Y1 : Y < h / 8) (nb : nbB (fun j => m 109 (864 * k + (pf pl + j))) (pw w pl) (X * sdOf pl) (Y * sdOf pl) (sdOf pl)) : jd_248 k pl (X * sdOf pl) (Y * sdOf pl) (sdOf pl) m = some (mnV (fun j => m 109 (864 * k + (pf pl + j))) (pw w pl) (X * sdOf pl) (Y * sdOf pl) (sdOf pl)) := by
  have ok : okI pl := by unfold okI; omega
  have ps := pl_sz sw sh p0 p2
  have pp := ppb_b p0 p2
  have rx := pt_r sw p0 p2 X0 X1
  have ry := pt_r sh p0 p2 Y0 Y1
  have bw := pw_sd sw pl
  have bh := pw_sd sh pl
  obtain ⟨sd, esd⟩ : ∃ z, sdOf pl = z := ⟨_, rfl⟩
  obtain ⟨W, eW⟩ : ∃ z, pw w pl = z := ⟨_, rfl⟩
  obtain ⟨H, eH⟩ : ∃ z, pw h pl = z := ⟨_, rfl⟩
  obtain ⟨x0, ex0⟩ : ∃ z, X * sdOf pl = z := ⟨_, rfl⟩
  obtain ⟨y0, ey0⟩ : ∃ z, Y * sdOf pl = z := ⟨_, rfl⟩
  rw [ex0] at rx nb
  rw [ey0] at ry nb
  rw [esd] at rx ry pp nb
  rw [eW] at rx ps bw nb
  rw [eH] at ry ps bh
  rw [ex0, ey0, esd, eW]
  have l : jd_248_l9 k pl x0 y0 sd 0 0 0 m = some (mnS (fun j => m 109 (864 * k + (pf pl + j))) W x0 y0 sd.toNat, mnC x0 y0 sd) := by
    unfold jd_248_l9
    have := w_for (f := fun u : (Int × Int × Int) => jd_248_s9 k pl x0 y0 sd u.1 u.2.1 u.2.2 m) (fun n => (mnS (fun j => m 109 (864 * k + (pf pl + j))) W x0 y0 n, mnC x0 y0 (n : Int), (n : Int))) sd.toNat (x := (mnS (fun j => m 109 (864 * k + (pf pl + j))) W x0 y0 sd.toNat, mnC x0 y0 sd)) (fun n hn => by
      unfold jd_248_s9 jd_248_b48 jd_248_b79
      dsimp only
      rw [n_jw (z := sd) (by omega) (by omega), n_jw (z := (n : Int)) (by omega) (by omega), if_neg (by omega), n_jw (z := y0) (by omega) (by omega), n_jw (z := x0) (by omega) (by omega), mnS_s, show ((n + 1 : Nat) : Int) = (n : Int) + 1 by omega, mnC_s, k_237 ok sw mw, k_237 ok sw mw, eW]
      have rd1 : 0 < y0 → jma m 109 (864 * k + pf pl + (y0 - 1) * W + (x0 + (n : Int))) = some (m 109 (864 * k + (pf pl + ((y0 - 1) * W + (x0 + (n : Int)))))) := fun hy => by
        have db := dm_b (W := W) (H := H) (r := y0 - 1) (c := x0 + (n : Int)) (by omega) (by omega) (by omega) (by omega)
        rw [show 864 * k + pf pl + (y0 - 1) * W + (x0 + (n : Int)) = 864 * k + (pf pl + ((y0 - 1) * W + (x0 + (n : Int)))) by omega]
        exact y_ma 109 10368 rfl rfl (by omega) (by omega)
      have rd2 : 0 < x0 → jma m 109 (864 * k + pf pl + (y0 + (n : Int)) * W + (x0 - 1)) = some (m 109 (864 * k + (pf pl + ((y0 + (n : Int)) * W + (x0 - 1))))) := fun hx => by
        have db := dm_b (W := W) (H := H) (r := y0 + (n : Int)) (c := x0 - 1) (by omega) (by omega) (by omega) (by omega)
        rw [show 864 * k + pf pl + (y0 + (n : Int)) * W + (x0 - 1) = 864 * k + (pf pl + ((y0 + (n : Int)) * W + (x0 - 1))) by omega]
        exact y_ma 109 10368 rfl rfl (by omega) (by omega)
      by_cases hy : 0 < y0
      · rw [if_neg (by omega), if_pos hy, if_pos hy, rd1 hy, Option.bind_some]
        by_cases hx : 0 < x0
        · rw [if_neg (by omega), if_pos hx, if_pos hx, rd2 hx, Option.bind_some]
        · rw [if_pos (by omega), if_neg hx, if_neg hx, Int.add_zero, Int.add_zero]
      · rw [if_pos (by omega), if_neg hy, if_neg hy]
        by_cases hx : 0 < x0
        · rw [if_neg (by omega), if_pos hx, if_pos hx, rd2 hx, Option.bind_some, Int.add_zero, Int.add_zero]
        · rw [if_pos (by omega), if_neg hx, if_neg hx, Int.add_zero, Int.add_zero, Int.add_zero, Int.add_zero]) (by
      unfold jd_248_s9
      dsimp only
      rw [n_jw (z := sd) (by omega) (by omega), n_jw (by omega) (by omega), if_pos (by omega), show ((sd.toNat : Nat) : Int) = sd by omega]) (n_fu (by omega))
    have e : mnC x0 y0 ((0 : Nat) : Int) = 0 := by unfold mnC; split <;> split <;> rfl
    rw [e] at this
    exact this
  have b := mnS_b (g := fun j => m 109 (864 * k + (pf pl + j))) (W := W) (x0 := x0) (y0 := y0) (n := sd.toNat) (fun i h0 h1 => nb.1 i h0 (by omega)) (fun i h0 h1 => nb.2 i h0 (by omega))
  rw [show ((sd.toNat : Nat) : Int) = sd by omega] at b
  have c0 : 0 ≤ mnC x0 y0 sd ∧ mnC x0 y0 sd ≤ 16 := by unfold mnC; split <;> split <;> omega
  unfold jd_248 jd_248_b106 mnV
  rw [l, Option.bind_some]
  dsimp only
  generalize mnC x0 y0 sd = C at b c0 ⊢
  generalize mnS (fun j => m 109 (864 * k + (pf pl + j))) W x0 y0 sd.toNat = S at b ⊢
  rw [n_jw (z := C) (by omega) (by omega)]
  by_cases c : C = 0
  · rw [if_pos c, if_pos c]
  · rw [if_neg c, if_neg c, jnz_1 (by omega) (by omega), Option.bind_some, n_div (z := C) (by omega) (by omega) (by decide) (by decide), n_div (by omega) (by omega) (by omega) (by omega)]
theorem c_81 (F : PtC s Q T) (h6 : s.1 ≤ 1000000) (P : PcC s Q p) (q2T : Q T 2 = some p) (sw : isSd w) (sh : isSd h) (p0 : 0 ≤ pl) (p2 : pl ≤ 2) (eX : I T 5 = X) (eY : I T 6 = Y) (X0 : 0 ≤ X) (X1 : X < w / 8) (Y0 : 0 ≤ Y) (Y1 : Y < h / 8) (nb : nbB (fun j => I (p + 1) (pb w h pl + j)) (pw w pl) (X * sdOf pl) (Y * sdOf pl) (sdOf pl)) : jd_81 T (sdOf pl) (pw w pl) (pb w h pl + Y * sdOf pl * pw w pl + X * sdOf pl) (hh s Q I) = some (mnV (fun j => I (p + 1) (pb w h pl + j)) (pw w pl) (X * sdOf pl) (Y * sdOf pl) (sdOf pl)) := by
  obtain ⟨P1, P2, P3, P4, P5, P6, P7⟩ := id P
  have t14 : s.2.2.1 p = 6 + 8 := P3
  have q2 : Q p ((2 : Nat) : Int) = some (p + 1) := P7
  have q2T' : Q T ((2 : Nat) : Int) = some p := q2T
  have e5 : I T ((5 : Nat) : Int) = X := eX
  have e6 : I T ((6 : Nat) : Int) = Y := eY
  have ps := pl_sz sw sh p0 p2
  have pp := ppb_b p0 p2
  have rx := pt_r sw p0 p2 X0 X1
  have ry := pt_r sh p0 p2 Y0 Y1
  have bw := pw_sd sw pl
  have bh := pw_sd sh pl
  have w8 : w / 8 ≤ 3 := by rcases sw with rfl | rfl | rfl <;> decide
  have h8 : h / 8 ≤ 3 := by rcases sh with rfl | rfl | rfl <;> decide
  have xx : 0 < X * sdOf pl ↔ 0 < X := by
    constructor
    · intro e
      by_cases c : X = 0
      · rw [c, Int.zero_mul] at e; omega
      · omega
    · intro e; exact Int.mul_pos e (by omega)
  have yy : 0 < Y * sdOf pl ↔ 0 < Y := by
    constructor
    · intro e
      by_cases c : Y = 0
      · rw [c, Int.zero_mul] at e; omega
      · omega
    · intro e; exact Int.mul_pos e (by omega)
  obtain ⟨sd, esd⟩ : ∃ z, sdOf pl = z := ⟨_, rfl⟩
  obtain ⟨W, eW⟩ : ∃ z, pw w pl = z := ⟨_, rfl⟩
  obtain ⟨H, eH⟩ : ∃ z, pw h pl = z := ⟨_, rfl⟩
  obtain ⟨pB, epB⟩ : ∃ z, pb w h pl = z := ⟨_, rfl⟩
  obtain ⟨x0, ex0⟩ : ∃ z, X * sdOf pl = z := ⟨_, rfl⟩
  obtain ⟨y0, ey0⟩ : ∃ z, Y * sdOf pl = z := ⟨_, rfl⟩
  rw [ex0] at rx nb xx
  rw [ey0] at ry nb yy
  rw [esd] at rx ry pp nb
  rw [eW] at rx ps bw nb
  rw [eH] at ry ps bh
  rw [epB] at ps nb
  rw [ex0, ey0, esd, eW, epB]
  have hP : s.2.2.2 (p + 1) ≤ 1000000 := by rw [P6]; decide
  have rb : ∀ z : Int, 0 ≤ z → z < 864 → jai (hh s Q I) (p + 1) z = some (I (p + 1) z) := fun z z0 z1 => x_ai P4 h6 P5 z0 (by rw [P6]; exact z1) hP
  have l : jd_81_l9 T sd W (pB + y0 * W + x0) 0 0 0 (hh s Q I) = some (mnS (fun j => I (p + 1) (pB + j)) W x0 y0 sd.toNat, mnC x0 y0 sd) := by
    unfold jd_81_l9
    have := w_for (f := fun u : (Int × Int × Int) => jd_81_s9 T sd W (pB + y0 * W + x0) u.1 u.2.1 u.2.2 (hh s Q I)) (fun n => (mnS (fun j => I (p + 1) (pB + j)) W x0 y0 n, mnC x0 y0 (n : Int), (n : Int))) sd.toNat (x := (mnS (fun j => I (p + 1) (pB + j)) W x0 y0 sd.toNat, mnC x0 y0 sd)) (fun n hn => by
      unfold jd_81_s9 jd_81_b44 jd_81_b75
      dsimp only
      rw [n_jw (z := sd) (by omega) (by omega), n_jw (z := (n : Int)) (by omega) (by omega), if_neg (by omega), T_gi F, Option.bind_some, e6, n_jw (z := Y) (by omega) (by omega), T_gi F, e5, mnS_s, show ((n + 1 : Nat) : Int) = (n : Int) + 1 by omega, mnC_s, T_gr F, q2T']
      have rd1 : 0 < y0 → jai (hh s Q I) (p + 1) (pB + y0 * W + x0 - W + (n : Int)) = some (I (p + 1) (pB + ((y0 - 1) * W + (x0 + (n : Int))))) := fun hy => by
        have db := dm_b (W := W) (H := H) (r := y0 - 1) (c := x0 + (n : Int)) (by omega) (by omega) (by omega) (by omega)
        have e : (y0 - 1) * W = y0 * W - W := by rw [Int.sub_mul, Int.one_mul]
        rw [show pB + y0 * W + x0 - W + (n : Int) = pB + ((y0 - 1) * W + (x0 + (n : Int))) by omega]
        exact rb _ (by omega) (by omega)
      have rd2 : 0 < x0 → jai (hh s Q I) (p + 1) (pB + y0 * W + x0 + (n : Int) * W - 1) = some (I (p + 1) (pB + ((y0 + (n : Int)) * W + (x0 - 1)))) := fun hx => by
        have db := dm_b (W := W) (H := H) (r := y0 + (n : Int)) (c := x0 - 1) (by omega) (by omega) (by omega) (by omega)
        have e : (y0 + (n : Int)) * W = y0 * W + (n : Int) * W := Int.add_mul _ _ _
        rw [show pB + y0 * W + x0 + (n : Int) * W - 1 = pB + ((y0 + (n : Int)) * W + (x0 - 1)) by omega]
        exact rb _ (by omega) (by omega)
      simp only [Option.bind_some, x_gr P2 t14, q2]
      rw [n_jw (z := X) (by omega) (by omega)]
      by_cases hy : 0 < y0
      · rw [if_neg (by omega), if_pos hy, if_pos hy, rd1 hy, Option.bind_some]
        by_cases hx : 0 < x0
        · rw [if_neg (by omega), if_pos hx, if_pos hx, rd2 hx, Option.bind_some]
        · rw [if_pos (by omega), if_neg hx, if_neg hx, Int.add_zero, Int.add_zero]
      · rw [if_pos (by omega), if_neg hy, if_neg hy]
        by_cases hx : 0 < x0
        · rw [if_neg (by omega), if_pos hx, if_pos hx, rd2 hx, Option.bind_some, Int.add_zero, Int.add_zero]
        · rw [if_pos (by omega), if_neg hx, if_neg hx, Int.add_zero, Int.add_zero, Int.add_zero, Int.add_zero]) (by
      unfold jd_81_s9
      dsimp only
      rw [n_jw (z := sd) (by omega) (by omega), n_jw (by omega) (by omega), if_pos (by omega), show ((sd.toNat : Nat) : Int) = sd by omega]) (n_fu (by omega))
    have e : mnC x0 y0 ((0 : Nat) : Int) = 0 := by unfold mnC; split <;> split <;> rfl
    rw [e] at this
    exact this
  have b := mnS_b (g := fun j => I (p + 1) (pB + j)) (W := W) (x0 := x0) (y0 := y0) (n := sd.toNat) (fun i h0 h1 => nb.1 i h0 (by omega)) (fun i h0 h1 => nb.2 i h0 (by omega))
  rw [show ((sd.toNat : Nat) : Int) = sd by omega] at b
  have c0 : 0 ≤ mnC x0 y0 sd ∧ mnC x0 y0 sd ≤ 16 := by unfold mnC; split <;> split <;> omega
  unfold jd_81 jd_81_b102 mnV
  rw [l, Option.bind_some]
  dsimp only
  generalize mnC x0 y0 sd = C at b c0 ⊢
  generalize mnS (fun j => I (p + 1) (pB + j)) W x0 y0 sd.toNat = S at b ⊢
  rw [n_jw (z := C) (by omega) (by omega)]
  by_cases c : C = 0
  · rw [if_pos c, if_pos c]
  · rw [if_neg c, if_neg c, jnz_1 (by omega) (by omega), Option.bind_some, n_div (z := C) (by omega) (by omega) (by decide) (by decide), n_div (by omega) (by omega) (by omega) (by omega)]
end Spread
