/-! making in waves: lifted twice; a code written on both sides -/
section LiftT
variable {s : hS} {Q : hQ} {hm : hO} {I m : jM}
def upP (a b : Nat) (G : Int → Int) : Int → Int := ups (ixC (4 * (a : Int))) b (ups (ixR (4 * (a : Int))) a (ups (ixC (4 * (a : Int))) (2 * b) (ups (ixR (4 * (a : Int))) (2 * a) G (2 * (2 * b))) (2 * (2 * a))) (2 * b)) (2 * a)
theorem upP_c {a b : Nat} {G G' : Int → Int} (e : ∀ j : Int, 0 ≤ j → j < 4 * (a : Int) * (4 * (b : Int)) → G j = G' j) (j : Int) (j0 : 0 ≤ j) (j1 : j < 4 * (a : Int) * (4 * (b : Int))) : upP a b G j = upP a b G' j := by
  unfold upP
  refine ups_c (N := 4 * (a : Int) * (4 * (b : Int))) (fun x i h1 h2 h3 h4 => ixC_r h1 h2 h3 h4 (by omega) (by omega)) (fun j j0 j1 => ?_) j j0 j1
  refine ups_c (N := 4 * (a : Int) * (4 * (b : Int))) (fun x i h1 h2 h3 h4 => ixR_r h1 h2 h3 h4 (by omega) (by omega)) (fun j j0 j1 => ?_) j j0 j1
  refine ups_c (N := 4 * (a : Int) * (4 * (b : Int))) (fun x i h1 h2 h3 h4 => ixC_r h1 h2 h3 h4 (by omega) (by omega)) (fun j j0 j1 => ?_) j j0 j1
  exact ups_c (N := 4 * (a : Int) * (4 * (b : Int))) (fun x i h1 h2 h3 h4 => ixR_r h1 h2 h3 h4 (by omega) (by omega)) e j j0 j1
theorem upP_b {a b : Nat} {G : Int → Int} (e : ∀ j : Int, 0 ≤ j → j < 4 * (a : Int) * (4 * (b : Int)) → -255 ≤ G j ∧ G j ≤ 255) (j : Int) (j0 : 0 ≤ j) (j1 : j < 4 * (a : Int) * (4 * (b : Int))) : -4095 ≤ upP a b G j ∧ upP a b G j ≤ 4095 := by
  unfold upP
  have s1 := fun j j0 j1 => ups_b (h := 2 * a) (n := 2 * (2 * b)) (ixs := ixR (4 * (a : Int))) (N := 4 * (a : Int) * (4 * (b : Int))) (b := 255) (G := G) (by decide) (by decide) (fun x i h1 h2 h3 h4 => ixR_r h1 h2 h3 h4 (by omega) (by omega)) (fun x y i k h1 h2 h3 h4 h5 h6 h7 h8 h9 => ixR_d h6 (by omega) h8 (by omega) h5) e j j0 j1
  have s2 := fun j j0 j1 => ups_b (h := 2 * b) (n := 2 * (2 * a)) (ixs := ixC (4 * (a : Int))) (N := 4 * (a : Int) * (4 * (b : Int))) (b := 2 * 255 + 1) (by decide) (by decide) (fun x i h1 h2 h3 h4 => ixC_r h1 h2 h3 h4 (by omega) (by omega)) (fun x y i k h1 h2 h3 h4 h5 h6 h7 h8 h9 => ixC_d h1 (by omega) h3 (by omega) h5) s1 j j0 j1
  have s3 := fun j j0 j1 => ups_b (h := a) (n := 2 * b) (ixs := ixR (4 * (a : Int))) (N := 4 * (a : Int) * (4 * (b : Int))) (b := 2 * (2 * 255 + 1) + 1) (by decide) (by decide) (fun x i h1 h2 h3 h4 => ixR_r h1 h2 h3 h4 (by omega) (by omega)) (fun x y i k h1 h2 h3 h4 h5 h6 h7 h8 h9 => ixR_d h6 (by omega) h8 (by omega) h5) s2 j j0 j1
  have s4 := ups_b (h := b) (n := 2 * a) (ixs := ixC (4 * (a : Int))) (N := 4 * (a : Int) * (4 * (b : Int))) (b := 2 * (2 * (2 * 255 + 1) + 1) + 1) (by decide) (by decide) (fun x i h1 h2 h3 h4 => ixC_r h1 h2 h3 h4 (by omega) (by omega)) (fun x y i k h1 h2 h3 h4 h5 h6 h7 h8 h9 => ixC_d h1 (by omega) h3 (by omega) h5) s3 j j0 j1
  omega
theorem c_135t {a b : Nat} (L : Lay s Q hm) (h6 : s.1 ≤ 1000000) (a0 : 1 ≤ a) (a1 : a ≤ 6) (b0 : 1 ≤ b) (b1 : b ≤ 6) (hN : 4 * (a : Int) * (4 * (b : Int)) ≤ 576) : ∃ Y Y' G, jd_135 61 (4 * (a : Int)) (4 * (a : Int)) (4 * (b : Int)) (hh s Q I) = some (hh s Q (ims (ims I 63 Y) 62 G)) ∧ jd_135 61 (4 * (a : Int)) (2 * (a : Int)) (2 * (b : Int)) (hh s Q (ims (ims I 63 Y) 62 G)) = some (hh s Q (ims (ims I 63 Y') 62 (upP a b (I 62)))) := by
  obtain ⟨Y, e1⟩ := c_135 (I := I) (sr := 4 * (a : Int)) (w := 2 * a) (v := 2 * b) L h6 (by omega) (by omega) (by omega) (by omega) (by omega) (fun x i h1 h2 h3 h4 => by have := ixC_r (a := a) (b := b) h1 h2 h3 h4 (by omega) (by omega); omega) (fun x i h1 h2 h3 h4 => by have := ixR_r (a := a) (b := b) h1 h2 h3 h4 (by omega) (by omega); omega)
  rw [show 2 * ((2 * a : Nat) : Int) = 4 * (a : Int) by omega, show 2 * ((2 * b : Nat) : Int) = 4 * (b : Int) by omega] at e1
  obtain ⟨G, hG⟩ : ∃ G, G = ups (ixC (4 * (a : Int))) (2 * b) (ups (ixR (4 * (a : Int))) (2 * a) (I 62) (2 * (2 * b))) (2 * (2 * a)) := ⟨_, rfl⟩
  rw [← hG] at e1
  obtain ⟨Y', e2⟩ := c_135 (I := ims (ims I 63 Y) 62 G) (sr := 4 * (a : Int)) (w := a) (v := b) L h6 (by omega) a0 (by omega) b0 (by omega) (fun x i h1 h2 h3 h4 => by have := ixC_r (a := a) (b := b) h1 h2 h3 h4 (by omega) (by omega); omega) (fun x i h1 h2 h3 h4 => by have := ixR_r (a := a) (b := b) h1 h2 h3 h4 (by omega) (by omega); omega)
  refine ⟨Y, Y', G, e1, ?_⟩
  rw [e2, ims_e, ims_sw (a := 62) (b := 63) (by decide), ims_ims, ims_ims, hG]
  rfl
theorem k_273ut {a b : Nat} (a0 : 1 ≤ a) (a1 : a ≤ 6) (b0 : 1 ≤ b) (b1 : b ≤ 6) (hN : 4 * (a : Int) * (4 * (b : Int)) ≤ 576) : ∃ m1 m2 m3 X Y, jd_273 (4 * (a : Int)) (4 * (a : Int)) (4 * (b : Int)) 1 0 m = some m1 ∧ jd_273 (4 * (a : Int)) (4 * (a : Int)) (4 * (b : Int)) 0 0 m1 = some m2 ∧ jd_273 (4 * (a : Int)) (2 * (a : Int)) (2 * (b : Int)) 1 0 m2 = some m3 ∧ jd_273 (4 * (a : Int)) (2 * (a : Int)) (2 * (b : Int)) 0 0 m3 = some (ims (ims (ims m 119 X) 120 Y) 118 (upP a b (m 118))) := by
  have col : ∀ {X X' Y Y' G G' : Int → Int}, ims (ims (ims (ims (ims (ims m 119 X) 120 Y) 118 G) 119 X') 120 Y') 118 G' = ims (ims (ims m 119 X') 120 Y') 118 G' := fun {X X' Y Y' G G'} => by
    rw [ims_sw (a := 118) (b := 119) (by decide), ims_sw (a := 118) (b := 120) (by decide), ims_ims, ims_sw (a := 120) (b := 119) (by decide), ims_ims, ims_ims]
  obtain ⟨X1, Y1, e1⟩ := k_273ur (m := m) (sr := 4 * (a : Int)) (w := 2 * a) (v := 2 * b) (by omega) (by omega) (by omega) (by omega) (fun x i h1 h2 h3 h4 => by have := ixR_r (a := a) (b := b) h1 h2 h3 h4 (by omega) (by omega); omega)
  rw [show 2 * ((2 * a : Nat) : Int) = 4 * (a : Int) by omega, show 2 * ((2 * b : Nat) : Int) = 4 * (b : Int) by omega] at e1
  obtain ⟨G1, hG1⟩ : ∃ G, G = ups (ixR (4 * (a : Int))) (2 * a) (m 118) (2 * (2 * b)) := ⟨_, rfl⟩
  rw [← hG1] at e1
  obtain ⟨X2, Y2, e2⟩ := k_273uc (m := ims (ims (ims m 119 X1) 120 Y1) 118 G1) (sr := 4 * (a : Int)) (w := 2 * a) (v := 2 * b) (by omega) (by omega) (by omega) (by omega) (fun x i h1 h2 h3 h4 => by have := ixC_r (a := a) (b := b) h1 h2 h3 h4 (by omega) (by omega); omega)
  rw [ims_e, col, show 2 * ((2 * a : Nat) : Int) = 4 * (a : Int) by omega, show 2 * ((2 * b : Nat) : Int) = 4 * (b : Int) by omega] at e2
  obtain ⟨G2, hG2⟩ : ∃ G, G = ups (ixC (4 * (a : Int))) (2 * b) G1 (2 * (2 * a)) := ⟨_, rfl⟩
  rw [← hG2] at e2
  obtain ⟨X3, Y3, e3⟩ := k_273ur (m := ims (ims (ims m 119 X2) 120 Y2) 118 G2) (sr := 4 * (a : Int)) (w := a) (v := b) a0 (by omega) b0 (by omega) (fun x i h1 h2 h3 h4 => by have := ixR_r (a := a) (b := b) h1 h2 h3 h4 (by omega) (by omega); omega)
  rw [ims_e, col] at e3
  obtain ⟨G3, hG3⟩ : ∃ G, G = ups (ixR (4 * (a : Int))) a G2 (2 * b) := ⟨_, rfl⟩
  rw [← hG3] at e3
  obtain ⟨X4, Y4, e4⟩ := k_273uc (m := ims (ims (ims m 119 X3) 120 Y3) 118 G3) (sr := 4 * (a : Int)) (w := a) (v := b) a0 (by omega) b0 (by omega) (fun x i h1 h2 h3 h4 => by have := ixC_r (a := a) (b := b) h1 h2 h3 h4 (by omega) (by omega); omega)
  rw [ims_e, col] at e4
  refine ⟨_, _, _, X4, Y4, e1, e2, e3, ?_⟩
  rw [e4, hG3, hG2, hG1]
  rfl
/-- both writers, n bits written -/
def WM (s : hS) (Q : hQ) (I m : jM) (n : Int) : Prop := WX s Q 43 I n (m 113) ∧ m 76 53 = n
theorem wcode {n v : Int} (W : WM s Q I m n) (v0 : 0 ≤ v) (v1 : v < 65535) (hl : n + ((cd v).length : Int) ≤ 32000) : ∃ I', jd_9 43 v (hh s Q I) = some (hh s Q I') ∧ jd_234 v m = some (wrM m n (cd v)) ∧ WM s Q I' (wrM m n (cd v)) (n + ((cd v).length : Int)) ∧ NW Q 43 I I' := by
  obtain ⟨X, h53⟩ := W
  obtain ⟨I', e1, e2, e3, e4⟩ := c_9 X v0 v1 hl
  refine ⟨I', e1, k_234 h53 X.2.1 v0 (by omega) (by omega), ⟨?_, wK_53⟩, e3, e4⟩
  rw [wrM_113]
  exact e2
theorem cd_l1 {v : Int} (v0 : 0 ≤ v) (v1 : v < 8191) : ((cd v).length : Int) ≤ 25 := by
  have := cdL_lt (k := 13) v0 (by omega)
  rw [cd_len]
  omega
theorem cd_l2 {v : Int} (v0 : 0 ≤ v) : ((cd v).length : Int) ≤ 2 * v + 1 := by
  have h1 := (cdL_b v0).1
  have h2 : cdL v < 2 ^ cdL v := Nat.lt_two_pow_self
  rw [cd_len]
  omega
end LiftT
