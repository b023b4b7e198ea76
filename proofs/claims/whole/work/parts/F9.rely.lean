/-! the relation with one player left out -/
section RelYs
variable {P : Int → Prop} {s s' : hS} {Q Q' : hQ} {hm hm' : hO} {I I' m m' : jM} {yy k : Nat} {o : Int}
def RPlyY (yy : Nat) (Q : hQ) (I m : jM) : Prop := ∀ y : Nat, y < 4 → y ≠ yy → PlyC Q I m y
def RelY (yy : Nat) (s : hS) (Q : hQ) (hm : hO) (I m : jM) : Prop := Lay s Q hm ∧ RPic s Q hm I m ∧ RTap I m ∧ RSet I m ∧ RRee s Q hm I m ∧ RFil s Q hm I m ∧ RRow I m ∧ RFlt s Q hm I m ∧ RPlyY yy Q I m ∧ RMis s Q hm
theorem RelY_H (R : RelH s Q hm I m) : RelY yy s Q hm I m := by
  obtain ⟨L, r1, r2, r3, r4, r5, r6, r7, r8, r9⟩ := R
  exact ⟨L, r1, r2, r3, r4, r5, r6, r7, fun y hy _ => r8 y hy, r9⟩
theorem RelH_Y (R : RelY yy s Q hm I m) (hp : PlyC Q I m yy) : RelH s Q hm I m := by
  obtain ⟨L, r1, r2, r3, r4, r5, r6, r7, r8, r9⟩ := R
  refine ⟨L, r1, r2, r3, r4, r5, r6, r7, fun y hy => ?_, r9⟩
  by_cases h : y = yy
  · subst h
    exact hp
  · exact r8 y hy h
theorem RPlyY_fr (L : Lay s Q hm) (S : Sm P s Q hm I s' Q' hm' I') (p1 : P 1005) (p5 : ∀ i : Int, 450 ≤ i → i < 454 → P i) (p6 : ∀ i : Int, 1072 ≤ i → i < 1076 → P i) (m0 : m' 76 12 = m 76 12) (em : ∀ x : Nat, 84 ≤ x → x ≤ 88 → m' x = m x) (en : ∀ x : Nat, 141 ≤ x → x ≤ 151 → m' x = m x) (M : RMis s Q hm) (c : RPlyY yy Q I m) : RPlyY yy Q' I' m' := by
  have q1 : Q' 5 = Q 5 := (Lay_fr (a := 5) L S (by decide) p1).1
  intro y hy hne
  obtain ⟨q2, i2⟩ := Lay_fr (a := 72 + y) L S (by omega) (p6 _ (by omega) (by omega))
  have H := c y hy hne
  unfold PlyC at H ⊢
  rw [q1, q2, i2, m0, em 84 (by decide) (by decide), em 85 (by decide) (by decide), em 87 (by decide) (by decide), em 88 (by decide) (by decide), en 141 (by decide) (by decide), en 142 (by decide) (by decide), en 143 (by decide) (by decide), en 144 (by decide) (by decide), en 145 (by decide) (by decide), en 146 (by decide) (by decide), en 147 (by decide) (by decide), en 148 (by decide) (by decide), en 149 (by decide) (by decide), en 150 (by decide) (by decide), en 151 (by decide) (by decide)]
  rcases H with H | ⟨h1, h2, h3, h4, h5, h6, h7, h8, h9, h10, h11, h12, h13, h14, p, hp, hx⟩
  · exact Or.inl H
  · obtain ⟨-, e1, e2⟩ := PicAt_fr S (M.2.2 y hy p hp) (p5 _ (by omega) (by omega))
    exact Or.inr ⟨h1, h2, h3, h4, h5, h6, h7, h8, h9, h10, h11, h12, h13, h14, p, hp, fun q => Pix_fr (hx q) e1 e2⟩
theorem RelY_fr (S : Sm P s Q hm I s' Q' hm' I') (p : ∀ i : Int, i < 1076 → P i) (L' : Lay s' Q' hm') (M : Mm m m') (R : RelY yy s Q hm I m) : RelY yy s' Q' hm' I' m' := by
  obtain ⟨L, r1, r2, r3, r4, r5, r6, r7, r8, r9⟩ := R
  obtain ⟨⟨m1, m5, m7, m8, m9, m12, m86, m92⟩, em⟩ := M
  have i0 : I' 0 = I 0 := (Lay_fr (a := 0) L S (by decide) (p _ (by decide))).2
  have i2 : I' 2 = I 2 := (Lay_fr (a := 2) L S (by decide) (p _ (by decide))).2
  have i3 : I' 3 = I 3 := (Lay_fr (a := 3) L S (by decide) (p _ (by decide))).2
  have i6 : I' 6 = I 6 := (Lay_fr (a := 6) L S (by decide) (p _ (by decide))).2
  refine ⟨L', ?_, ?_, ?_, ?_, ?_, ?_, ?_, ?_, ?_⟩
  · exact RPic_fr L S (p _ (by omega)) (fun i _ _ => p i (by omega)) (by rw [i0]) m1 (em 77 (by omega)) (em 78 (by omega)) (em 79 (by omega)) r1
  · exact RTap_fr (by rw [i0]) i2 m5 (em 80 (by omega)) r2
  · exact RSet_fr i3 (em 82 (by omega)) r3
  · exact RRee_fr L S (p _ (by omega)) (fun i _ _ => p i (by omega)) (by rw [i0]) m7 m8 m9 (em 81 (by omega)) r4
  · exact RFil_fr L S (p _ (by omega)) (fun i _ _ => p i (by omega)) (fun i _ _ => p i (by omega)) (fun i _ _ => p i (by omega)) (by rw [i0]) m12 (fun x _ _ => em x (by omega)) r5
  · exact RRow_fr (by rw [i0]) i6 m86 m12 (em 131 (by omega)) (em 132 (by omega)) (em 133 (by omega)) (em 83 (by omega)) (em 87 (by omega)) r6
  · exact RFlt_fr L S (p _ (by omega)) (fun i _ _ => p i (by omega)) (by rw [i0]) m92 (em 135 (by omega)) (em 136 (by omega)) (em 137 (by omega)) r7
  · exact RPlyY_fr L S (p _ (by omega)) (fun i _ _ => p i (by omega)) (fun i _ _ => p i (by omega)) m12 (fun x _ _ => em x (by omega)) (fun x _ _ => em x (by omega)) r9 r8
  · exact RMis_fr L S (p _ (by omega)) (p _ (by omega)) (p _ (by omega)) (fun i _ _ => p i (by omega)) (fun i _ _ => p i (by omega)) (fun i _ _ => p i (by omega)) r9
theorem n_relY (R : RelY yy s Q hm I m) : RelY yy (nSh s) (nRf Q s.1) (nOw hm s.1 o) (nIn I s.1) m := RelY_fr (P := fun _ => True) n_sm (fun _ _ => trivial) (n_lay R.1) Mm_refl R
/-- player k worked on -/
theorem RelY_ply (R : RelY k s Q hm I m) (hk : k < 4) (S : Sm (fun o => o ≠ 1072 + (k : Int) ∧ o ≠ 450 + (k : Int)) s Q hm I s' Q' hm' I') (L' : Lay s' Q' hm') (M : My m m' k) (SL : Sl s' Q' hm' (Q' (72 + k) 8) (450 + (k : Int))) : RelY k s' Q' hm' I' m' := by
  obtain ⟨L, r1, r2, r3, r4, r5, r6, r7, r8, r9⟩ := R
  obtain ⟨⟨m1, m5, m7, m8, m9, m12, m86, m92⟩, em, ey, ez⟩ := M
  have i0 : I' 0 = I 0 := (Lay_fr (a := 0) L S (by decide) (by omega)).2
  have i2 : I' 2 = I 2 := (Lay_fr (a := 2) L S (by decide) (by omega)).2
  have i3 : I' 3 = I 3 := (Lay_fr (a := 3) L S (by decide) (by omega)).2
  have i6 : I' 6 = I 6 := (Lay_fr (a := 6) L S (by decide) (by omega)).2
  have q5 : Q' 5 = Q 5 := (Lay_fr (a := 5) L S (by decide) (by omega)).1
  refine ⟨L', ?_, ?_, ?_, ?_, ?_, ?_, ?_, ?_, ?_⟩
  · exact RPic_fr L S (by omega) (fun i _ _ => by omega) (by rw [i0]) m1 (em 77 (by omega)) (em 78 (by omega)) (em 79 (by omega)) r1
  · exact RTap_fr (by rw [i0]) i2 m5 (em 80 (by omega)) r2
  · exact RSet_fr i3 (em 82 (by omega)) r3
  · exact RRee_fr L S (by omega) (fun i _ _ => by omega) (by rw [i0]) m7 m8 m9 (em 81 (by omega)) r4
  · exact RFil_fr L S (by omega) (fun i _ _ => by omega) (fun i _ _ => by omega) (fun i _ _ => by omega) (by rw [i0]) m12 (fun x _ _ => em x (by omega)) r5
  · exact RRow_fr (by rw [i0]) i6 m86 m12 (em 131 (by omega)) (em 132 (by omega)) (em 133 (by omega)) (em 83 (by omega)) (em 87 (by omega)) r6
  · exact RFlt_fr L S (by omega) (fun i _ _ => by omega) (by rw [i0]) m92 (em 135 (by omega)) (em 136 (by omega)) (em 137 (by omega)) r7
  · intro j hj hjk
    · obtain ⟨q2, i2⟩ := Lay_fr (a := 72 + j) L S (by omega) (by omega)
      have H := r8 j hj hjk
      have hne : ((j : Nat) : Int) ≠ (k : Int) := by omega
      unfold PlyC at H ⊢
      rw [q5, q2, i2, m12, em 84 (by omega), em 85 (by omega), em 87 (by omega), em 88 (by omega), ey 141 (by omega) (by omega) _ hne, ey 142 (by omega) (by omega) _ hne, ey 143 (by omega) (by omega) _ hne, ey 144 (by omega) (by omega) _ hne, ey 145 (by omega) (by omega) _ hne, ey 146 (by omega) (by omega) _ hne, ey 147 (by omega) (by omega) _ hne, ey 148 (by omega) (by omega) _ hne, ey 149 (by omega) (by omega) _ hne, ey 150 (by omega) (by omega) _ hne]
      rcases H with H | ⟨h1, h2, h3, h4, h5, h6, h7, h8, h9, h10, h11, h12, h13, h14, p, hp, hx⟩
      · exact Or.inl H
      · obtain ⟨-, e1, e2⟩ := PicAt_fr S (r9.2.2 j hj p hp) (by omega)
        refine Or.inr ⟨h1, h2, h3, h4, h5, h6, h7, h8, h9, h10, h11, h12, h13, h14, p, hp, fun q => ?_⟩
        have Y := Pix_fr (hx q) e1 e2
        refine Pix_g Y (fun q k' q0 q2 k0 k1 => ?_)
        have b := pl_sz Y.2.2.1 Y.2.2.2.1 q0 q2
        exact ez _ (by omega)
  · obtain ⟨c1, c2, c3⟩ := r9
    have q43 : Q' 43 = Q 43 := (Lay_fr (a := 43) L S (by decide) (by omega)).1
    have q37 : Q' 37 = Q 37 := (Lay_fr (a := 37) L S (by decide) (by omega)).1
    unfold RMis
    rw [q43, q37]
    refine ⟨fun b hb => ⟨(c1 b hb).1, (Ce_fr S (c1 b hb).2 (by omega)).1⟩, fun k' h1 h2 => Sl_fr S (c2 k' h1 h2) (by omega), fun j hj => ?_⟩
    by_cases hjk : j = k
    · subst hjk
      exact SL
    · rw [(Lay_fr (a := 72 + j) L S (by omega) (by omega)).1]
      exact Sl_fr S (c3 j hj) (by omega)
end RelYs
