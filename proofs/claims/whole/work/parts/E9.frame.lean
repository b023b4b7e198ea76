/-! the relation when one film beyond the count was worked on -/
section FilmFrame
variable {s s' : hS} {Q Q' : hQ} {hm hm' : hO} {I I' m m' : jM} {f : Int} {a b : Nat}
def PF (f o : Int) : Prop := o ≠ 1000 ∧ ¬ (1009 ≤ o ∧ o ≤ 1024) ∧ o ≠ 1041 ∧ o ≠ 500 + f ∧ o ≠ 540 + f ∧ ¬ (200 + 12 * f ≤ o ∧ o < 200 + 12 * f + 12)
theorem RPly_f (L : Lay s Q hm) (f0 : 0 ≤ f) (f8 : f < 8) (S : Sm (PF f) s Q hm I s' Q' hm' I') (hf : m 76 12 = f) (m0 : f ≤ m' 76 12) (ef : ∀ g : Int, 0 ≤ g → g < f → MF m m' g) (en : ∀ x : Nat, 141 ≤ x → x ≤ 151 → m' x = m x) (M : RMis s Q hm) (c : RPly Q I m) : RPly Q' I' m' := by
  have q1 : Q' 5 = Q 5 := (Lay_fr (a := 5) L S (by decide) (by unfold PF; omega)).1
  intro y hy
  obtain ⟨q2, i2⟩ := Lay_fr (a := 72 + y) L S (by omega) (by unfold PF; omega)
  have H := c y hy
  unfold PlyC at H ⊢
  rw [q1, q2, i2, en 141 (by decide) (by decide), en 142 (by decide) (by decide), en 143 (by decide) (by decide), en 144 (by decide) (by decide), en 145 (by decide) (by decide), en 146 (by decide) (by decide), en 147 (by decide) (by decide), en 148 (by decide) (by decide), en 149 (by decide) (by decide), en 150 (by decide) (by decide), en 151 (by decide) (by decide)]
  rcases H with H | ⟨h1, h2, h3, h4, h5, h6, h7, h8, h9, h10, h11, h12, h13, h14, p, hp, hx⟩
  · exact Or.inl H
  · obtain ⟨-, e1, e2⟩ := PicAt_fr S (M.2.2 y hy p hp) (by unfold PF; omega)
    have G := (ef (m 141 y) h1 (by omega)).1
    rw [G 84 (by decide) (by decide), G 85 (by decide) (by decide), G 87 (by decide) (by decide), G 88 (by decide) (by decide)]
    exact Or.inr ⟨h1, by omega, h3, h4, h5, h6, h7, h8, h9, h10, h11, h12, h13, h14, p, hp, fun q => Pix_fr (hx q) e1 e2⟩
theorem RelH_film (R : RelH s Q hm I m) (hf : m 76 12 = f) (f8 : f < 8) (S : Sm (PF f) s Q hm I s' Q' hm' I') (L' : Lay s' Q' hm') (ha : Q 5 f = some a) (F' : FilmAt s' Q' hm' a f) (i0 : ∀ y : Int, y ≠ 3 → y ≠ 8 → I' 0 y = I 0 y) (i3 : I' 0 3 = 0) (m5 : m' 76 5 = 0) (m76 : m' 76 1 = m 76 1 ∧ m' 76 7 = m 76 7 ∧ m' 76 8 = m 76 8 ∧ m' 76 9 = m 76 9 ∧ m' 76 86 = m 76 86 ∧ m' 76 92 = m 76 92) (em : ∀ x : Nat, (77 ≤ x ∧ x ≤ 82) ∨ (131 ≤ x ∧ x ≤ 133) ∨ (135 ≤ x ∧ x ≤ 137) ∨ (141 ≤ x ∧ x ≤ 151) → m' x = m x) (ef : ∀ g : Int, 0 ≤ g → g < f → MF m m' g) (e8 : (I' 0 8 = f ∧ m' 76 12 = f) ∨ (I' 0 8 = f + 1 ∧ m' 76 12 = f + 1 ∧ FilmC s' Q' I' m' a f)) : RelH s' Q' hm' I' m' := by
  obtain ⟨L, r1, r2, r3, r4, r5, r6, r7, r8, r9⟩ := R
  obtain ⟨t1, t2, t3, t4, t5⟩ := r5
  obtain ⟨n1, n7, n8, n9, n86, n92⟩ := m76
  have q5 : Q' 5 = Q 5 := (Lay_fr (a := 5) L S (by decide) (by unfold PF; omega)).1
  have g3 : I' 3 = I 3 := (Lay_fr (a := 3) L S (by decide) (by unfold PF; omega)).2
  have g6 : I' 6 = I 6 := (Lay_fr (a := 6) L S (by decide) (by unfold PF; omega)).2
  have c12 : I' 0 8 = m' 76 12 ∧ f ≤ m' 76 12 ∧ m' 76 12 ≤ f + 1 := by
    rcases e8 with h | h <;> omega
  refine ⟨L', RPic_fr L S (by unfold PF; omega) (fun i _ _ => by unfold PF; omega) (i0 1 (by decide) (by decide)) n1 (em 77 (by omega)) (em 78 (by omega)) (em 79 (by omega)) r1, ⟨i3.trans m5.symm, by omega, by omega, fun i h1 h2 => absurd h2 (by omega)⟩, RSet_fr g3 (em 82 (by omega)) r3, RRee_fr L S (by unfold PF; omega) (fun i _ _ => by unfold PF; omega) (i0 6 (by decide) (by decide)) n7 n8 n9 (em 81 (by omega)) r4, ⟨c12.1, by omega, by omega, fun g g0 g8 x hx => ?_, fun g g0 g8 => ?_⟩, ?_, RFlt_fr L S (by unfold PF; omega) (fun i _ _ => by unfold PF; omega) (i0 12 (by decide) (by decide)) n92 (em 135 (by omega)) (em 136 (by omega)) (em 137 (by omega)) r7, RPly_f L (by omega) f8 S hf c12.2.1 ef (fun x h1 h2 => em x (by omega)) r9 r8, RMis_fr L S (by unfold PF; omega) (by unfold PF; omega) (by unfold PF; omega) (fun i _ _ => by unfold PF; omega) (fun i _ _ => by unfold PF; omega) (fun i _ _ => by unfold PF; omega) r9⟩
  · rw [q5] at hx
    by_cases e : g = f
    · subst e
      rw [ha] at hx
      cases hx
      exact F'
    · exact (FilmAt_fr1 S (fun k _ _ => by unfold PF; omega) (by unfold PF; omega) (by unfold PF; omega) (t4 g g0 g8 x hx)).1
  · by_cases e : g = f
    · subst e
      rcases e8 with h | h
      · omega
      · exact ⟨a, by rw [q5]; exact ha, h.2.2⟩
    · obtain ⟨x, hx, X⟩ := t5 g g0 (by omega)
      have Fx := t4 g g0 (by omega) x hx
      obtain ⟨-, k0, k1, k2⟩ := FilmAt_fr1 S (fun k _ _ => by unfold PF; omega) (by unfold PF; omega) (by unfold PF; omega) Fx
      exact ⟨x, by rw [q5]; exact hx, FilmC_m (ef g g0 (by omega)) (FilmC_fr Fx k0 k1 k2 (fun _ _ _ => rfl) X)⟩
  · obtain ⟨u1, u2, u3, u4⟩ := r6
    unfold RRow
    rw [i0 10 (by decide) (by decide), g6, n86, em 131 (by omega), em 132 (by omega), em 133 (by omega)]
    refine ⟨u1, u2, u3, fun r h1 h2 => ?_⟩
    obtain ⟨v1, v2, v3, v4, v5, v6, v7, v8, v9⟩ := u4 r h1 h2
    have G := (ef (m 131 r) v4 (by omega)).1
    rw [G 83 (by decide) (by decide), G 87 (by decide) (by decide)]
    exact ⟨v1, v2, v3, v4, by omega, v6, v7, v8, v9⟩
end FilmFrame
