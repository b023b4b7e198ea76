/-! a plane of waves, read by both sides -/
section WPlane
variable {s : hS} {Q : hQ} {hm : hO} {I m : jM} {A p : Nat} {base i en w h k pl : Int}
def lwP (a b : Nat) (G : Int → Int) : Int → Int := wps (ixR (4 * (a : Int))) (2 * a) (wps (ixC (4 * (a : Int))) (2 * b) (wps (ixR (4 * (a : Int))) a (wps (ixC (4 * (a : Int))) b G (2 * a)) (2 * b)) (2 * (2 * a))) (2 * (2 * b))
theorem ixC_r {a b : Nat} {x i : Int} {c d : Int} (x0 : 0 ≤ x) (x1 : x < c) (i0 : 0 ≤ i) (i1 : i < d) (hc : c ≤ 4 * (a : Int)) (hd : d ≤ 4 * (b : Int)) : 0 ≤ ixC (4 * (a : Int)) x i ∧ ixC (4 * (a : Int)) x i < 4 * (a : Int) * (4 * (b : Int)) := by
  unfold ixC
  have := dm_b (W := 4 * (a : Int)) (H := 4 * (b : Int)) (r := i) (c := x) i0 (by omega) x0 (by omega)
  omega
theorem ixR_r {a b : Nat} {x i : Int} {c d : Int} (x0 : 0 ≤ x) (x1 : x < c) (i0 : 0 ≤ i) (i1 : i < d) (hc : c ≤ 4 * (b : Int)) (hd : d ≤ 4 * (a : Int)) : 0 ≤ ixR (4 * (a : Int)) x i ∧ ixR (4 * (a : Int)) x i < 4 * (a : Int) * (4 * (b : Int)) := by
  unfold ixR
  have := dm_b (W := 4 * (a : Int)) (H := 4 * (b : Int)) (r := x) (c := i) x0 (by omega) i0 (by omega)
  rw [Int.mul_one]
  exact this
theorem ixC_d {W x y i k : Int} (x0 : 0 ≤ x) (x1 : x < W) (y0 : 0 ≤ y) (y1 : y < W) (h : x ≠ y) : ixC W x i ≠ ixC W y k := by
  unfold ixC
  intro e
  have e1 := (dm (W := W) (k := x + i * W) (r := i) (c := x) (by omega) x0 x1).1 (by omega)
  have e2 := (dm (W := W) (k := y + k * W) (r := k) (c := y) (by omega) y0 y1).1 (by omega)
  rw [e] at e1
  omega
theorem ixR_d {W x y i k : Int} (x0 : 0 ≤ i) (x1 : i < W) (y0 : 0 ≤ k) (y1 : k < W) (h : x ≠ y) : ixR W x i ≠ ixR W y k := by
  unfold ixR
  rw [Int.mul_one, Int.mul_one]
  intro e
  have e1 := (dm (W := W) (k := x * W + i) (r := x) (c := i) (by omega) x0 x1).1 rfl
  have e2 := (dm (W := W) (k := y * W + k) (r := y) (c := k) (by omega) y0 y1).1 rfl
  rw [e] at e1
  omega
theorem lwP_c {a b : Nat} {G G' : Int → Int} (e : ∀ j : Int, 0 ≤ j → j < 4 * (a : Int) * (4 * (b : Int)) → G j = G' j) (j : Int) (j0 : 0 ≤ j) (j1 : j < 4 * (a : Int) * (4 * (b : Int))) : lwP a b G j = lwP a b G' j := by
  unfold lwP
  refine wps_c (N := 4 * (a : Int) * (4 * (b : Int))) (fun x i h1 h2 h3 h4 => ixR_r h1 h2 h3 h4 (by omega) (by omega)) (fun j j0 j1 => ?_) j j0 j1
  refine wps_c (N := 4 * (a : Int) * (4 * (b : Int))) (fun x i h1 h2 h3 h4 => ixC_r h1 h2 h3 h4 (by omega) (by omega)) (fun j j0 j1 => ?_) j j0 j1
  refine wps_c (N := 4 * (a : Int) * (4 * (b : Int))) (fun x i h1 h2 h3 h4 => ixR_r h1 h2 h3 h4 (by omega) (by omega)) (fun j j0 j1 => ?_) j j0 j1
  exact wps_c (N := 4 * (a : Int) * (4 * (b : Int))) (fun x i h1 h2 h3 h4 => ixC_r h1 h2 h3 h4 (by omega) (by omega)) e j j0 j1
theorem lwP_b {a b : Nat} {G : Int → Int} (e : ∀ j : Int, 0 ≤ j → j < 4 * (a : Int) * (4 * (b : Int)) → -4095 ≤ G j ∧ G j ≤ 4095) (j : Int) (j0 : 0 ≤ j) (j1 : j < 4 * (a : Int) * (4 * (b : Int))) : -10000000 ≤ lwP a b G j ∧ lwP a b G j ≤ 10000000 := by
  unfold lwP
  have s1 := fun j j0 j1 => wps_b (h := b) (n := 2 * a) (ixs := ixC (4 * (a : Int))) (N := 4 * (a : Int) * (4 * (b : Int))) (b := 4095) (G := G) (by decide) (by decide) (fun x i h1 h2 h3 h4 => ixC_r h1 h2 h3 h4 (by omega) (by omega)) (fun x y i k h1 h2 h3 h4 h5 h6 h7 h8 h9 => ixC_d h1 (by omega) h3 (by omega) h5) e j j0 j1
  have s2 := fun j j0 j1 => wps_b (h := a) (n := 2 * b) (ixs := ixR (4 * (a : Int))) (N := 4 * (a : Int) * (4 * (b : Int))) (b := 4 * 4095 + 4) (by decide) (by decide) (fun x i h1 h2 h3 h4 => ixR_r h1 h2 h3 h4 (by omega) (by omega)) (fun x y i k h1 h2 h3 h4 h5 h6 h7 h8 h9 => ixR_d h6 (by omega) h8 (by omega) h5) s1 j j0 j1
  have s3 := fun j j0 j1 => wps_b (h := 2 * b) (n := 2 * (2 * a)) (ixs := ixC (4 * (a : Int))) (N := 4 * (a : Int) * (4 * (b : Int))) (b := 4 * (4 * 4095 + 4) + 4) (by decide) (by decide) (fun x i h1 h2 h3 h4 => ixC_r h1 h2 h3 h4 (by omega) (by omega)) (fun x y i k h1 h2 h3 h4 h5 h6 h7 h8 h9 => ixC_d h1 (by omega) h3 (by omega) h5) s2 j j0 j1
  have s4 := wps_b (h := 2 * a) (n := 2 * (2 * b)) (ixs := ixR (4 * (a : Int))) (N := 4 * (a : Int) * (4 * (b : Int))) (b := 4 * (4 * (4 * 4095 + 4) + 4) + 4) (by decide) (by decide) (fun x i h1 h2 h3 h4 => ixR_r h1 h2 h3 h4 (by omega) (by omega)) (fun x y i k h1 h2 h3 h4 h5 h6 h7 h8 h9 => ixR_d h6 (by omega) h8 (by omega) h5) s3 j j0 j1
  omega
/-- lowered twice: the class, the model -/
theorem c_136t {a b : Nat} (L : Lay s Q hm) (h6 : s.1 ≤ 1000000) (a0 : 1 ≤ a) (a1 : a ≤ 6) (b0 : 1 ≤ b) (b1 : b ≤ 6) (hN : 4 * (a : Int) * (4 * (b : Int)) ≤ 576) : ∃ Y Y' G, jd_136 21 (4 * (a : Int)) (2 * (a : Int)) (2 * (b : Int)) (hh s Q I) = some (hh s Q (ims (ims I 23 Y) 22 G)) ∧ jd_136 21 (4 * (a : Int)) (4 * (a : Int)) (4 * (b : Int)) (hh s Q (ims (ims I 23 Y) 22 G)) = some (hh s Q (ims (ims I 23 Y') 22 (lwP a b (I 22)))) := by
  obtain ⟨Y, e1⟩ := c_136 (I := I) (sr := 4 * (a : Int)) L h6 a0 (by omega) b0 (by omega) (fun x i h1 h2 h3 h4 => by have := ixC_r (a := a) (b := b) h1 h2 h3 h4 (by omega) (by omega); omega) (fun x i h1 h2 h3 h4 => by have := ixR_r (a := a) (b := b) h1 h2 h3 h4 (by omega) (by omega); omega)
  obtain ⟨G, hG⟩ : ∃ G, G = wps (ixR (4 * (a : Int))) a (wps (ixC (4 * (a : Int))) b (I 22) (2 * a)) (2 * b) := ⟨_, rfl⟩
  rw [← hG] at e1
  obtain ⟨Y', e2⟩ := c_136 (I := ims (ims I 23 Y) 22 G) (sr := 4 * (a : Int)) (w := 2 * a) (v := 2 * b) L h6 (by omega) (by omega) (by omega) (by omega) (fun x i h1 h2 h3 h4 => by have := ixC_r (a := a) (b := b) h1 h2 h3 h4 (by omega) (by omega); omega) (fun x i h1 h2 h3 h4 => by have := ixR_r (a := a) (b := b) h1 h2 h3 h4 (by omega) (by omega); omega)
  refine ⟨Y, Y', G, e1, ?_⟩
  rw [show 2 * ((2 * a : Nat) : Int) = 4 * (a : Int) by omega, show 2 * ((2 * b : Nat) : Int) = 4 * (b : Int) by omega] at e2
  rw [e2, ims_e, ims_sw (a := 22) (b := 23) (by decide), ims_ims, ims_ims, hG]
  rfl
theorem k_273t {a b : Nat} (a0 : 1 ≤ a) (a1 : a ≤ 6) (b0 : 1 ≤ b) (b1 : b ≤ 6) (hN : 4 * (a : Int) * (4 * (b : Int)) ≤ 576) : ∃ m1 m2 m3 X Y, jd_273 (4 * (a : Int)) (2 * (a : Int)) (2 * (b : Int)) 0 1 m = some m1 ∧ jd_273 (4 * (a : Int)) (2 * (a : Int)) (2 * (b : Int)) 1 1 m1 = some m2 ∧ jd_273 (4 * (a : Int)) (4 * (a : Int)) (4 * (b : Int)) 0 1 m2 = some m3 ∧ jd_273 (4 * (a : Int)) (4 * (a : Int)) (4 * (b : Int)) 1 1 m3 = some (ims (ims (ims m 119 X) 120 Y) 118 (lwP a b (m 118))) := by
  have col : ∀ {X X' Y Y' G G' : Int → Int}, ims (ims (ims (ims (ims (ims m 119 X) 120 Y) 118 G) 119 X') 120 Y') 118 G' = ims (ims (ims m 119 X') 120 Y') 118 G' := fun {X X' Y Y' G G'} => by
    rw [ims_sw (a := 118) (b := 119) (by decide), ims_sw (a := 118) (b := 120) (by decide), ims_ims, ims_sw (a := 120) (b := 119) (by decide), ims_ims, ims_ims]
  obtain ⟨X1, Y1, e1⟩ := k_273c (m := m) (sr := 4 * (a : Int)) (w := a) (v := b) a0 (by omega) b0 (by omega) (fun x i h1 h2 h3 h4 => by have := ixC_r (a := a) (b := b) h1 h2 h3 h4 (by omega) (by omega); omega)
  obtain ⟨G1, hG1⟩ : ∃ G, G = wps (ixC (4 * (a : Int))) b (m 118) (2 * a) := ⟨_, rfl⟩
  rw [← hG1] at e1
  obtain ⟨X2, Y2, e2⟩ := k_273r (m := ims (ims (ims m 119 X1) 120 Y1) 118 G1) (sr := 4 * (a : Int)) (w := a) (v := b) a0 (by omega) b0 (by omega) (fun x i h1 h2 h3 h4 => by have := ixR_r (a := a) (b := b) h1 h2 h3 h4 (by omega) (by omega); omega)
  rw [ims_e, col] at e2
  obtain ⟨G2, hG2⟩ : ∃ G, G = wps (ixR (4 * (a : Int))) a G1 (2 * b) := ⟨_, rfl⟩
  rw [← hG2] at e2
  obtain ⟨X3, Y3, e3⟩ := k_273c (m := ims (ims (ims m 119 X2) 120 Y2) 118 G2) (sr := 4 * (a : Int)) (w := 2 * a) (v := 2 * b) (by omega) (by omega) (by omega) (by omega) (fun x i h1 h2 h3 h4 => by have := ixC_r (a := a) (b := b) h1 h2 h3 h4 (by omega) (by omega); omega)
  rw [ims_e, col, show 2 * ((2 * a : Nat) : Int) = 4 * (a : Int) by omega, show 2 * ((2 * b : Nat) : Int) = 4 * (b : Int) by omega] at e3
  obtain ⟨G3, hG3⟩ : ∃ G, G = wps (ixC (4 * (a : Int))) (2 * b) G2 (2 * (2 * a)) := ⟨_, rfl⟩
  rw [← hG3] at e3
  obtain ⟨X4, Y4, e4⟩ := k_273r (m := ims (ims (ims m 119 X3) 120 Y3) 118 G3) (sr := 4 * (a : Int)) (w := 2 * a) (v := 2 * b) (by omega) (by omega) (by omega) (by omega) (fun x i h1 h2 h3 h4 => by have := ixR_r (a := a) (b := b) h1 h2 h3 h4 (by omega) (by omega); omega)
  rw [ims_e, col, show 2 * ((2 * a : Nat) : Int) = 4 * (a : Int) by omega, show 2 * ((2 * b : Nat) : Int) = 4 * (b : Int) by omega] at e4
  refine ⟨_, _, _, X4, Y4, e1, e2, e3, ?_⟩
  rw [e4, hG3, hG2, hG1]
  rfl
end WPlane
