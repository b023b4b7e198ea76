/-! the end of a part, on both sides -/
section PTail
variable {s : hS} {Q : hQ} {hm : hO} {I m : jM} {A p b1 b2 : Nat} {base i en w h k q md kd st x3 X Y a1 a2 : Int}
/-- parts ahead of n alike -/
def PrtE (p : Nat) (w h k n : Int) (I m : jM) : Prop := ∀ pl x y : Int, 0 ≤ pl → pl ≤ 2 → 0 ≤ x → x < pw w pl → 0 ≤ y → y < pw h pl → y / sdOf pl * (w / 8) + x / sdOf pl < n → I (p + 1) (pb w h pl + (y * pw w pl + x)) = m 109 (864 * k + (pf pl + (y * pw w pl + x))) ∧ 0 ≤ m 109 (864 * k + (pf pl + (y * pw w pl + x))) ∧ m 109 (864 * k + (pf pl + (y * pw w pl + x))) ≤ 255
theorem prt_nb (sw : isSd w) (sh : isSd h) (X0 : 0 ≤ X) (X1 : X < w / 8) (Y0 : 0 ≤ Y) (Y1 : Y < h / 8) (hq : q = Y * (w / 8) + X) (E : PrtE p w h k q I m) {pl : Int} (p0 : 0 ≤ pl) (p2 : pl ≤ 2) : nbE (fun j => I (p + 1) (pb w h pl + j)) (fun j => m 109 (864 * k + (pf pl + j))) (pw w pl) (X * sdOf pl) (Y * sdOf pl) (sdOf pl) ∧ nbB (fun j => m 109 (864 * k + (pf pl + j))) (pw w pl) (X * sdOf pl) (Y * sdOf pl) (sdOf pl) := by
  have pp := ppb_b p0 p2
  have rx := pt_r sw p0 p2 X0 X1
  have ry := pt_r sh p0 p2 Y0 Y1
  have dv : ∀ Z i : Int, 0 ≤ i → i < sdOf pl → (Z * sdOf pl + i) / sdOf pl = Z := fun Z i i0 i1 => by
    rcases pp.2.2 with e | e <;> rw [e] at i1 ⊢ <;> omega
  have dm1 : ∀ Z : Int, (Z * sdOf pl - 1) / sdOf pl = Z - 1 := fun Z => by
    rcases pp.2.2 with e | e <;> rw [e] <;> omega
  have up : ∀ i : Int, 0 ≤ i → i < sdOf pl → 0 < Y * sdOf pl → _ := fun i i0 i1 hy => E pl (X * sdOf pl + i) (Y * sdOf pl - 1) p0 p2 (by omega) (by omega) (by omega) (by omega) (by
    rw [dm1 Y, dv X i i0 i1, hq, Int.sub_mul, Int.one_mul]
    omega)
  have lf : ∀ i : Int, 0 ≤ i → i < sdOf pl → 0 < X * sdOf pl → _ := fun i i0 i1 hx => E pl (X * sdOf pl - 1) (Y * sdOf pl + i) p0 p2 (by omega) (by omega) (by omega) (by omega) (by
    rw [dm1 X, dv Y i i0 i1, hq]
    omega)
  exact ⟨⟨fun i i0 i1 hy => (up i i0 i1 hy).1, fun i i0 i1 hx => (lf i i0 i1 hx).1⟩, ⟨fun i i0 i1 hy => (up i i0 i1 hy).2, fun i i0 i1 hx => (lf i i0 i1 hx).2⟩⟩
theorem nbB_E {g g' : Int → Int} {W x0 y0 sd : Int} (e : nbE g g' W x0 y0 sd) (b : nbB g' W x0 y0 sd) : nbB g W x0 y0 sd := ⟨fun i i0 i1 hy => by rw [e.1 i i0 i1 hy]; exact b.1 i i0 i1 hy, fun i i0 i1 hx => by rw [e.2 i i0 i1 hx]; exact b.2 i i0 i1 hx⟩
/-- a reference picture alike on both sides -/
def RfE (s : hS) (Q : hQ) (I m : jM) (b : Nat) (w h a : Int) : Prop := PcC s Q b ∧ I b 0 = w ∧ I b 1 = h ∧ 0 ≤ a ∧ a < 12 ∧ ∀ pl j : Int, 0 ≤ pl → pl ≤ 2 → 0 ≤ j → j < pw w pl * pw h pl → I (b + 1) (pb w h pl + j) = m 109 (864 * a + (pf pl + j)) ∧ 0 ≤ m 109 (864 * a + (pf pl + j)) ∧ m 109 (864 * a + (pf pl + j)) ≤ 255
theorem RfE_S {b : Nat} {a : Int} (R : RfE s Q I m b w h a) : PcS s Q I b w h := ⟨R.1, R.2.1, R.2.2.1, fun pl j h0 h1 h2 h3 => by
  have := R.2.2.2.2.2 pl j h0 h1 h2 h3
  rw [this.1]; exact this.2⟩
/-- references of picture k for how, on both sides -/
def Rfs (s : hS) (Q : hQ) (I m : jM) (b1 b2 : Nat) (w h k kd how a1 a2 : Int) : Prop := (3 ≤ how → ∀ m' : jM, m' 76 36 = m 76 36 → m' 102 = m 102 → jd_239 k (if kd = 2 then 2 else 1) m' = some a1) ∧ (how = 3 ∨ how = 5 → Q 11 3 = some b1 ∧ RfE s Q I m b1 w h a1) ∧ (how = 4 ∨ how = 5 → Q 11 4 = some b2 ∧ RfE s Q I m b2 w h a2 ∧ ∀ m' : jM, m' 76 36 = m 76 36 → m' 102 = m 102 → jd_239 k 1 m' = some a2)
theorem pvV_c {how W H x0 y0 sd fx fy bx by' r c : Int} {g g' S1 S1' S2 S2' : Int → Int} (w0 : 1 ≤ W) (h0 : 1 ≤ H) (s0 : 0 ≤ sd) (r0 : 0 ≤ r) (r1 : r < sd) (c0 : 0 ≤ c) (c1 : c < sd) (e0 : how < 3 → nbE g g' W x0 y0 sd) (e1 : how = 3 ∨ how = 5 → ∀ j : Int, 0 ≤ j → j < W * H → S1 j = S1' j) (e2 : how = 4 ∨ how = 5 → ∀ j : Int, 0 ≤ j → j < W * H → S2 j = S2' j) (h5 : how ≤ 5) : pvV how g S1 S2 W H x0 y0 sd fx fy bx by' r c = pvV how g' S1' S2' W H x0 y0 sd fx fy bx by' r c := by
  unfold pvV
  by_cases c3 : how < 3
  · rw [if_pos c3, if_pos c3]
    exact sprd_c s0 r0 r1 c0 c1 (e0 c3)
  · rw [if_neg c3, if_neg c3]
    by_cases d3 : how = 3
    · rw [if_pos d3, if_pos d3]
      exact ft_c w0 h0 (e1 (Or.inl d3))
    · rw [if_neg d3, if_neg d3]
      by_cases d4 : how = 4
      · rw [if_pos d4, if_pos d4]
        exact ft_c w0 h0 (e2 (Or.inl d4))
      · rw [if_neg d4, if_neg d4, ft_c w0 h0 (e1 (Or.inr (by omega))), ft_c w0 h0 (e2 (Or.inr (by omega)))]
theorem pvV_b {how W H x0 y0 sd fx fy bx by' r c : Int} {g S1 S2 : Int → Int} (w0 : 1 ≤ W) (h0 : 1 ≤ H) (s0 : 0 ≤ sd) (r0 : 0 ≤ r) (r1 : r < sd) (c0 : 0 ≤ c) (c1 : c < sd) (e0 : how < 3 → nbB g W x0 y0 sd) (e1 : how = 3 ∨ how = 5 → ∀ j : Int, 0 ≤ j → j < W * H → 0 ≤ S1 j ∧ S1 j ≤ 255) (e2 : how = 4 ∨ how = 5 → ∀ j : Int, 0 ≤ j → j < W * H → 0 ≤ S2 j ∧ S2 j ≤ 255) (h5 : how ≤ 5) : 0 ≤ pvV how g S1 S2 W H x0 y0 sd fx fy bx by' r c ∧ pvV how g S1 S2 W H x0 y0 sd fx fy bx by' r c ≤ 255 := by
  unfold pvV
  by_cases c3 : how < 3
  · rw [if_pos c3]
    exact sprd_b s0 r0 r1 c0 c1 (e0 c3)
  · rw [if_neg c3]
    by_cases d3 : how = 3
    · rw [if_pos d3]
      exact ft_b w0 h0 (e1 (Or.inl d3))
    · rw [if_neg d3]
      by_cases d4 : how = 4
      · rw [if_pos d4]
        exact ft_b w0 h0 (e2 (Or.inl d4))
      · rw [if_neg d4]
        have q1 := ft_b (x := x0 + c) (y := y0 + r) (hx := fx) (hy := fy) w0 h0 (e1 (Or.inr (by omega)))
        have q2 := ft_b (x := x0 + c) (y := y0 + r) (hx := bx) (hy := by') w0 h0 (e2 (Or.inr (by omega)))
        omega
/-- every cell of a part is a cell of one block -/
theorem cb_all {z : Int} (z0 : 0 ≤ z) (z1 : z < 96) : ∃ b r c, 0 ≤ b ∧ b < 6 ∧ 0 ≤ r ∧ r < 4 ∧ 0 ≤ c ∧ c < 4 ∧ z = cb b r c := by
  by_cases c : z < 64
  · refine ⟨2 * (z / 8 / 4) + z % 8 / 4, z / 8 % 4, z % 4, by omega, by omega, by omega, by omega, by omega, by omega, ?_⟩
    unfold cb
    rw [if_pos (by omega)]
    omega
  · refine ⟨z / 16, z % 16 / 4, z % 4, by omega, by omega, by omega, by omega, by omega, by omega, ?_⟩
    unfold cb
    rw [if_neg (by omega)]
    omega
/-- every cell of a part belongs to one plane -/
theorem pl_cell {z : Int} (z0 : 0 ≤ z) (z1 : z < 96) : ∃ pl r c, 0 ≤ pl ∧ pl ≤ 2 ∧ 0 ≤ r ∧ r < sdOf pl ∧ 0 ≤ c ∧ c < sdOf pl ∧ z = ppb pl + (r * sdOf pl + c) := by
  by_cases c : z < 64
  · exact ⟨0, z / 8, z % 8, by decide, by decide, by omega, by show z / 8 < 8; omega, by omega, by show z % 8 < 8; omega, by show z = 0 + (z / 8 * 8 + z % 8); omega⟩
  · by_cases d : z < 80
    · exact ⟨1, (z - 64) / 4, (z - 64) % 4, by decide, by decide, by omega, by show (z - 64) / 4 < 4; omega, by omega, by show (z - 64) % 4 < 4; omega, by show z = 64 + ((z - 64) / 4 * 4 + (z - 64) % 4); omega⟩
    · exact ⟨2, (z - 80) / 4, (z - 80) % 4, by decide, by decide, by omega, by show (z - 80) / 4 < 4; omega, by omega, by show (z - 80) % 4 < 4; omega, by show z = 80 + ((z - 80) / 4 * 4 + (z - 80) % 4); omega⟩
end PTail
