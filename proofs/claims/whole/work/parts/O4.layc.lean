/-! making: a group's order as a function of its length and the pictures between anchors -/
section LayC
variable {s : hS} {Q : hQ} {hm : hO} {I m : jM} {a : Nat} {f g p n d : Int}
def mzG (d : Int) : jM := jms (fun _ _ => 0) 82 2 d
def kkG (n d : Int) : Int → Int := (jd_293 n (mzG d)).getD (fun _ _ => 0) 102
def ssG (n d : Int) : Int → Int := (jd_293 n (mzG d)).getD (fun _ _ => 0) 103
theorem lay_c (F : FilmAt s Q hm a f) (p0 : 0 ≤ p) (pn : p + n ≤ 12) (n0 : 1 ≤ n) (d0 : 0 ≤ d) (d1 : d ≤ 1000) : ∃ I' : jM, jd_64 (some a) p g n d (hh s Q I) = some (hh s Q I') ∧ LG (kkG n d) (ssG n d) n n ∧ (∀ j : Int, 0 ≤ j → j < n → I' (a + 1) (p + j) = kkG n d j ∧ I' (a + 2) (p + j) = g + ssG n d j) ∧ (∀ x : Nat, x ≠ a + 1 → x ≠ a + 2 → I' x = I x) ∧ ∀ z : Int, z < p ∨ p + n ≤ z → I' (a + 1) z = I (a + 1) z ∧ I' (a + 2) z = I (a + 2) z := by
  have z32 : mzG d 76 32 = 0 := by unfold mzG; rw [jms_o (by decide)]
  have z82 : mzG d 82 2 = d := by unfold mzG; rw [jms_e]
  obtain ⟨I', M, m', e1, e2, -, -, G, h2, hj, l1, l2, -, -⟩ := lay_g (I := I) (m := mzG d) (g := g) (x3 := 0) (x4 := 0) (x5 := 0) F p0 pn n0 d0 d1 (Or.inl ⟨by rw [z32]; decide, z82⟩)
  have hM : (jd_293 n (mzG d)).getD (fun _ _ => 0) = M := by rw [e2]; rfl
  unfold kkG ssG
  rw [hM]
  refine ⟨I', e1, G, fun j j0 j1 => ?_, l1, l2⟩
  obtain ⟨h3, h4, h5⟩ := hj j j0 j1
  exact ⟨h3.trans (congrFun h2 j), h4.trans h5⟩
theorem lay_m (F : FilmAt s Q hm a f) (h6 : s.1 ≤ 1000000) (n0 : 1 ≤ n) (n1 : n ≤ 12) (d0 : 0 ≤ d) (d1 : d ≤ 1000) (hd : (jw (m 76 32) = 0 ∧ m 82 2 = d) ∨ (¬ jw (m 76 32) = 0 ∧ d = 0)) {x3 x4 x5 : Int} : ∃ (M m' : jM), jd_293 n m = some M ∧ jd_294_l13 g x3 x4 x5 0 (jms M 76 83 0) = some m' ∧ (m' 76 35 = n ∧ m' 76 36 = 0 ∧ m' 76 83 = 0) ∧ LG (kkG n d) (ssG n d) n n ∧ (∀ j : Int, 0 ≤ j → j < n → m' 102 j = kkG n d j ∧ m' 103 j = g + ssG n d j) ∧ (∀ x : Nat, x ≠ 76 → x ≠ 102 → x ≠ 103 → m' x = m x) ∧ (∀ z : Int, z ≠ 35 → z ≠ 36 → z ≠ 83 → m' 76 z = m 76 z) := by
  obtain ⟨I', M, m', e1, e2, e3, e4, -, h2, hj, -, -, l3, l4⟩ := lay_g (I := fun _ _ => 0) (p := 0) (g := g) (x3 := x3) (x4 := x4) (x5 := x5) F (Int.le_refl _) (by omega) n0 d0 d1 hd
  obtain ⟨I2, u1, G, u2, -, -⟩ := lay_c (I := fun _ _ => 0) (p := 0) (g := g) F (Int.le_refl _) (by omega) n0 d0 d1
  have ee : hh s Q I' = hh s Q I2 := Option.some.inj (e1.symm.trans u1)
  refine ⟨M, m', e2, e3, e4, G, fun j j0 j1 => ?_, l3, l4⟩
  obtain ⟨h3, h4, -⟩ := hj j j0 j1
  obtain ⟨v3, v4⟩ := u2 j j0 j1
  have a1 := F_ai (R := Q) (I := I') F h6 1 12 rfl rfl rfl (z := 0 + j) (by omega) (by omega)
  have a2 := F_ai (R := Q) (I := I') F h6 2 12 rfl rfl rfl (z := 0 + j) (by omega) (by omega)
  rw [ee, F_ai F h6 1 12 rfl rfl rfl (by omega) (by omega)] at a1
  rw [ee, F_ai F h6 2 12 rfl rfl rfl (by omega) (by omega)] at a2
  have b1 : I2 (a + 1) (0 + j) = I' (a + 1) (0 + j) := Option.some.inj a1
  have b2 : I2 (a + 2) (0 + j) = I' (a + 2) (0 + j) := Option.some.inj a2
  exact ⟨by rw [← h3, ← b1]; exact v3, by rw [← h4, ← b2]; exact v4⟩
end LayC
