/-! the relation when a film beyond the count was made -/
section RelMk
variable {s s' : hS} {Q Q' : hQ} {hm hm' : hO} {I I' m m' : jM} {f : Int} {a b : Nat}
def PL (f o : Int) : Prop := o ≠ 1000 ∧ ¬ (1009 ≤ o ∧ o ≤ 1024) ∧ ¬ (1041 ≤ o ∧ o ≤ 1071) ∧ o ≠ 560 ∧ o ≠ 500 + f ∧ o ≠ 540 + f ∧ ¬ (200 + 12 * f ≤ o ∧ o < 200 + 12 * f + 12)
theorem RPly_l (L : Lay s Q hm) (f0 : 0 ≤ f) (f8 : f < 8) (S : Sm (PL f) s Q hm I s' Q' hm' I') (hf : m 76 12 = f) (m0 : f ≤ m' 76 12) (ef : ∀ g : Int, 0 ≤ g → g < f → MF m m' g) (en : ∀ x : Nat, 141 ≤ x → x ≤ 151 → m' x = m x) (M : RMis s Q hm) (c : RPly Q I m) : RPly Q' I' m' := by
  have q1 : Q' 5 = Q 5 := (Lay_fr (a := 5) L S (by decide) (by unfold PL; omega)).1
  intro y hy
  obtain ⟨q2, i2⟩ := Lay_fr (a := 72 + y) L S (by omega) (by unfold PL; omega)
  have H := c y hy
  unfold PlyC at H ⊢
  rw [q1, q2, i2, en 141 (by decide) (by decide), en 142 (by decide) (by decide), en 143 (by decide) (by decide), en 144 (by decide) (by decide), en 145 (by decide) (by decide), en 146 (by decide) (by decide), en 147 (by decide) (by decide), en 148 (by decide) (by decide), en 149 (by decide) (by decide), en 150 (by decide) (by decide), en 151 (by decide) (by decide)]
  rcases H with H | ⟨h1, h2, h3, h4, h5, h6, h7, h8, h9, h10, h11, h12, h13, h14, p, hp, hx⟩
  · exact Or.inl H
  · obtain ⟨-, e1, e2⟩ := PicAt_fr S (M.2.2 y hy p hp) (by unfold PL; omega)
    have G := (ef (m 141 y) h1 (by omega)).1
    rw [G 84 (by decide) (by decide), G 85 (by decide) (by decide), G 87 (by decide) (by decide), G 88 (by decide) (by decide)]
    exact Or.inr ⟨h1, by omega, h3, h4, h5, h6, h7, h8, h9, h10, h11, h12, h13, h14, p, hp, fun q => Pix_fr (hx q) e1 e2⟩
theorem RelH_mk (R : RelH s Q hm I m) (hf : m 76 12 = f) (f8 : f < 8) (S : Sm (PL f) s Q hm I s' Q' hm' I') (L' : Lay s' Q' hm') (ha : Q 5 f = some a) (F' : FilmAt s' Q' hm' a f) (hb' : ∀ b, Q' 43 0 = some b → 153 ≤ b ∧ Ce s' hm' b 1 4000 560) (i0 : ∀ y : Int, y ≠ 8 → I' 0 y = I 0 y) (m76 : m' 76 1 = m 76 1 ∧ m' 76 5 = m 76 5 ∧ m' 76 7 = m 76 7 ∧ m' 76 8 = m 76 8 ∧ m' 76 9 = m 76 9 ∧ m' 76 86 = m 76 86 ∧ m' 76 92 = m 76 92) (em : ∀ x : Nat, (77 ≤ x ∧ x ≤ 82) ∨ (131 ≤ x ∧ x ≤ 133) ∨ (135 ≤ x ∧ x ≤ 137) ∨ (141 ≤ x ∧ x ≤ 151) → m' x = m x) (ef : ∀ g : Int, 0 ≤ g → g < f → MF m m' g) (e8 : (I' 0 8 = f ∧ m' 76 12 = f) ∨ (I' 0 8 = f + 1 ∧ m' 76 12 = f + 1 ∧ FilmC s' Q' I' m' a f)) : RelH s' Q' hm' I' m' := by
  obtain ⟨L, r1, r2, r3, r4, r5, r6, r7, r8, r9⟩ := R
  obtain ⟨t1, t2, t3, t4, t5⟩ := r5
  obtain ⟨n1, n5, n7, n8, n9, n86, n92⟩ := m76
  have q5 : Q' 5 = Q 5 := (Lay_fr (a := 5) L S (by decide) (by unfold PL; omega)).1
  have g2 : I' 2 = I 2 := (Lay_fr (a := 2) L S (by decide) (by unfold PL; omega)).2
  have g3 : I' 3 = I 3 := (Lay_fr (a := 3) L S (by decide) (by unfold PL; omega)).2
  have g6 : I' 6 = I 6 := (Lay_fr (a := 6) L S (by decide) (by unfold PL; omega)).2
  have c12 : I' 0 8 = m' 76 12 ∧ f ≤ m' 76 12 ∧ m' 76 12 ≤ f + 1 := by
    rcases e8 with h | h <;> omega
  refine ⟨L', RPic_fr L S (by unfold PL; omega) (fun i _ _ => by unfold PL; omega) (i0 1 (by decide)) n1 (em 77 (by omega)) (em 78 (by omega)) (em 79 (by omega)) r1, ?_, RSet_fr g3 (em 82 (by omega)) r3, RRee_fr L S (by unfold PL; omega) (fun i _ _ => by unfold PL; omega) (i0 6 (by decide)) n7 n8 n9 (em 81 (by omega)) r4, ⟨c12.1, by omega, by omega, fun g g0 g8 x hx => ?_, fun g g0 g8 => ?_⟩, ?_, RFlt_fr L S (by unfold PL; omega) (fun i _ _ => by unfold PL; omega) (i0 12 (by decide)) n92 (em 135 (by omega)) (em 136 (by omega)) (em 137 (by omega)) r7, RPly_l L (by omega) f8 S hf c12.2.1 ef (fun x h1 h2 => em x (by omega)) r9 r8, ⟨hb', ?_, ?_⟩⟩
  · unfold RTap at *
    rw [i0 3 (by decide), n5, em 80 (by omega), g2]
    exact r2
  · rw [q5] at hx
    by_cases e : g = f
    · subst e
      rw [ha] at hx
      cases hx
      exact F'
    · exact (FilmAt_fr1 S (fun k _ _ => by unfold PL; omega) (by unfold PL; omega) (by unfold PL; omega) (t4 g g0 g8 x hx)).1
  · by_cases e : g = f
    · subst e
      rcases e8 with h | h
      · omega
      · exact ⟨a, by rw [q5]; exact ha, h.2.2⟩
    · obtain ⟨x, hx, X⟩ := t5 g g0 (by omega)
      have Fx := t4 g g0 (by omega) x hx
      obtain ⟨-, k0, k1, k2⟩ := FilmAt_fr1 S (fun k _ _ => by unfold PL; omega) (by unfold PL; omega) (by unfold PL; omega) Fx
      exact ⟨x, by rw [q5]; exact hx, FilmC_m (ef g g0 (by omega)) (FilmC_fr Fx k0 k1 k2 (fun _ _ _ => rfl) X)⟩
  · obtain ⟨u1, u2, u3, u4⟩ := r6
    unfold RRow
    rw [i0 10 (by decide), g6, n86, em 131 (by omega), em 132 (by omega), em 133 (by omega)]
    refine ⟨u1, u2, u3, fun r h1 h2 => ?_⟩
    obtain ⟨v1, v2, v3, v4, v5, v6, v7, v8, v9⟩ := u4 r h1 h2
    have G := (ef (m 131 r) v4 (by omega)).1
    rw [G 83 (by decide) (by decide), G 87 (by decide) (by decide)]
    exact ⟨v1, v2, v3, v4, by omega, v6, v7, v8, v9⟩
  · obtain ⟨-, c2, -⟩ := r9
    have q2 : Q' 37 = Q 37 := (Lay_fr (a := 37) L S (by decide) (by unfold PL; omega)).1
    intro k h1 h2
    rw [q2]
    exact Sl_fr S (c2 k h1 h2) (by unfold PL; omega)
  · obtain ⟨-, -, c3⟩ := r9
    intro y hy
    rw [(Lay_fr (a := 72 + y) L S (by omega) (by unfold PL; omega)).1]
    exact Sl_fr S (c3 y hy) (by unfold PL; omega)
/-- a made film lands -/
theorem mk_land {s1 s4 : hS} {Q1 Q4 : hQ} {hm1 hm4 : hO} {I1 I4 mP : jM} {len : Int} (R1 : RelH s1 Q1 hm1 I1 m) (hf : m 76 12 = f) (f0 : 0 ≤ f) (f8 : f < 8) (ha : Q1 5 f = some a) (S : Sm (PL f) s1 Q1 hm1 I1 s4 Q4 hm4 I4) (L4 : Lay s4 Q4 hm4) (B4 : FBm s4 Q4 hm4 I4 mP a f len) (hb4 : ∀ b, Q4 43 0 = some b → 153 ≤ b ∧ Ce s4 hm4 b 1 4000 560) (l7 : 7 ≤ len) (l1 : len ≤ 24067) (kz : ∀ x : Int, 0 ≤ x → x < 12 → I4 (a + 8) x = 0) (i0 : I4 0 = I1 0) (q0 : mP 76 0 = 0) (qj : ∀ j : Int, j ≠ 0 → j < 32 ∨ 84 ≤ j → mP 76 j = m 76 j) (qx : ∀ x : Nat, x ≠ 76 → ¬ (102 ≤ x ∧ x ≤ 130) → mP x = m x) (ok : ∃ M, jd_301 mP = some (-1, M)) (h6 : s4.1 + 24 ≤ 1000000) : ∃ (s' : hS) (Q' : hQ) (hm' : hO) (I' m' : jM), jd_197 0 (some a) (hh s4 Q4 I4) = some (f, hh s' Q' I') ∧ ((jd_301 mP).bind fun q50 => (if (jw q50.1) = (-1) then ((jd_308 q50.2).bind fun q53 => jd_300_b307 q53.1 q53.2) else jd_300_b307 (-1) q50.2)) = some (f, m') ∧ m' 76 0 = 0 ∧ RelH s' Q' hm' I' m' ∧ Sm (PF f) s4 Q4 hm4 I4 s' Q' hm' I' ∧ s'.1 ≤ s4.1 + 24 ∧ s'.2.1 ≤ s4.2.1 + 10404 := by
  obtain ⟨F4, -, ⟨y6, y0, y47⟩, yb⟩ := B4
  obtain ⟨b, b5, b6, b7⟩ : ∃ b, Q4 a 5 = some b ∧ len ≤ ((s4.2.2.2 b : Nat) : Int) ∧ ∀ i : Int, 0 ≤ i → i < len → I4 b i % 256 = mP 112 i % 256 := by
    rcases yb with e | e
    · omega
    · exact e
  obtain ⟨b153, k, hk, cb⟩ := F4.2.2.2.1 b b5
  have Y : BySm s4 Q4 I4 mP a b len := ⟨b5, ⟨cb.1, cb.2.1, by rw [cb.2.2.1]; omega⟩, y6, y0, b6, by omega, y47, b7⟩
  obtain ⟨r, J, M, e1, e2, fr, fr5, mc, m76, br⟩ := parse F4 (by omega) Y (by omega) (fun j hj => b_nf F4 Y.1 j hj)
  have i8 : I1 0 8 = f := R1.2.2.2.2.2.1.1.trans hf
  obtain ⟨M0, ok⟩ := ok
  have er : r = -1 := by
    rw [e2] at ok
    have := Option.some.inj ok
    exact congrArg Prod.fst this
  rcases br with ⟨r0, r1⟩ | ⟨-, H⟩
  · omega
  · rw [er] at e1 e2
    have M112 : M 112 = mP 112 := mc 112 (by decide) (by decide) (by decide) (by decide) (by decide) (by decide)
    have M12 : M 76 12 = f := by rw [m76 12 (by omega), qj 12 (by decide) (by decide), hf]
    have M47 : M 76 47 = len := by rw [m76 47 (by omega)]; exact y47
    obtain ⟨s', Q', hm', I', m', d1, d2, d3, d4, d5, d6, d7, d8, d9, da, db, dc⟩ := rd_ok f0 f8 L4 F4 h6 Y l1 kz M12 (by rw [i0, i8]) e1 H fr fr5 M112 M47
    have N : ∀ j : Int, j < 32 ∨ 84 ≤ j → j ≠ 12 → j ≠ 0 → m' 76 j = m 76 j := fun j ja j12 j0 => by rw [d8 j j12 (by omega), m76 j (by omega), qj j j0 ja]
    have hb5 : ∀ b, Q' 43 0 = some b → 153 ≤ b ∧ Ce s' hm' b 1 4000 560 := fun y hy => by
      rw [(Lay_fr (a := 43) L4 d5 (by decide) (by unfold PF; omega)).1] at hy
      obtain ⟨y1, y2⟩ := hb4 y hy
      exact ⟨y1, (Ce_fr d5 y2 (by unfold PF; omega)).1⟩
    refine ⟨s', Q', hm', I', m', d1, ?_, ?_, ?_, d5, db, dc⟩
    · rw [e2, Option.bind_some, if_pos (show jw ((-1 : Int), M).1 = -1 from (by decide : jw (-1 : Int) = -1)), d2, Option.bind_some]
      rfl
    · rw [d8 0 (by decide) (by omega), m76 0 (by omega)]
      exact q0
    · have G : ∀ x : Nat, x ≠ 76 → ¬ (102 ≤ x ∧ x ≤ 130) → M x = m x := fun x xa xb => by rw [mc x (by omega) (by omega) (by omega) (by omega) (by omega) (by omega), qx x xa xb]
      refine RelH_mk R1 hf f8 (Sm_trans S (Sm_mono d5 (fun o ho => by unfold PL at ho; unfold PF; omega))) d3 ha d4 hb5 (fun y y8 => by rw [d6 y y8, i0]) ⟨N 1 (by omega) (by decide) (by decide), N 5 (by omega) (by decide) (by decide), N 7 (by omega) (by decide) (by decide), N 8 (by omega) (by decide) (by decide), N 9 (by omega) (by decide) (by decide), N 86 (by omega) (by decide) (by decide), N 92 (by omega) (by decide) (by decide)⟩ (fun x hx => by rw [d9 x (by omega) (by omega), G x (by omega) (by omega)]) (fun g g0 gf => ?_) (Or.inr d7)
      obtain ⟨z1, z2, z3, z4, z5⟩ := da g g0 gf
      exact ⟨fun x xa xb => by rw [z1 x xa xb, G x (by omega) (by omega)], fun i u1 u2 => by rw [z2 i u1 u2, G 89 (by decide) (by decide)], fun x xa xb k u1 u2 => by rw [z3 x xa xb k u1 u2, G x (by omega) (by omega)], fun k j u1 u2 u3 u4 => by rw [(z4 k j u1 u2 u3 u4).1, (z4 k j u1 u2 u3 u4).2, G 99 (by decide) (by decide), G 100 (by decide) (by decide)]; exact ⟨rfl, rfl⟩, fun k j u1 u2 u3 u4 => by rw [z5 k j u1 u2 u3 u4, G 101 (by decide) (by decide)]⟩
end RelMk
