/-! a read film is alike on both sides -/
section FilmRead
variable {s : hS} {Q Q' : hQ} {hm : hO} {I I' m m' : jM} {f w h cod T len rt : Int} {pj : Int → Nat} {a A : Nat}
theorem LpI_k (F : FilmAt s Q hm a f) (B : LpB s Q hm I m a A w h cod f T len pj) (J : LpI s Q hm I m a w h cod f T pj T Q' I' m') : (∀ j : Nat, j < 10 → I' (a + j) = I (a + j)) ∧ I' A = I A ∧ ∀ i : Int, 0 ≤ i → i < T → I' (pj i) = I (pj i) := by
  obtain ⟨⟨f0, f8⟩, -, -, -, l1, eqs, ⟨qA, ⟨A1, A2, A3⟩, Al, Ab⟩, pcs, dst⟩ := B
  obtain ⟨j1, j2, j3, j4, j5, -, -, -, j9⟩ := J
  have a153 := F.1
  have ta : ∀ j : Nat, j < 13 → ∀ i : Int, 0 ≤ i → i < T → a + j ≠ pj i + 1 := fun j hj i i0 i1 e => by
    have g := (F.2.1 j hj)
    have P6 := (pcs i i0 i1).2.1.2.2.2.2.2.1
    have g3 := g.2.2.1
    rw [e, P6] at g3
    have : ∀ j : Fin 13, 864 ≠ (fTag j.val).2 := by decide
    exact this ⟨j, hj⟩ g3
  refine ⟨fun j hj => j3 (a + j) (by omega) (by omega) (by omega) (by omega) (fun i i0 i1 => ta j (by omega) i i0 (by omega)), ?_, fun i i0 i1 => ?_⟩
  · have cA := F.2.2.2.1 A qA
    refine j3 A (by omega) (fun e => ?_) (fun e => ?_) (fun e => ?_) (fun i i0 i1 e => ?_)
    · have := (F.2.1 10 (by decide)).2.1; rw [← e, A2] at this; exact absurd this (by decide)
    · have := (F.2.1 11 (by decide)).2.1; rw [← e, A2] at this; exact absurd this (by decide)
    · have := (F.2.1 12 (by decide)).2.1; rw [← e, A2] at this; exact absurd this (by decide)
    · have := (pcs i i0 (by omega)).2.1.2.2.2.2.1; rw [← e, A2] at this; exact absurd this (by decide)
  · have P := (pcs i i0 i1).2.1
    have t3 := P.2.2.1
    refine j3 (pj i) (by have := P.1; omega) (fun e => ?_) (fun e => ?_) (fun e => ?_) (fun i' i0' i1' e => ?_)
    · have := (F.2.1 10 (by decide)).2.1; rw [← e, t3] at this; exact absurd this (by decide)
    · have := (F.2.1 11 (by decide)).2.1; rw [← e, t3] at this; exact absurd this (by decide)
    · have := (F.2.1 12 (by decide)).2.1; rw [← e, t3] at this; exact absurd this (by decide)
    · have := (pcs i' i0' (by omega)).2.1.2.2.2.2.1; rw [← e, t3] at this; exact absurd this (by decide)
theorem jwb_jwb (z : Int) : jwb (jwb z) = jwb z := jwb_c (by unfold jwb; omega)
theorem FilmC_of (F : FilmAt s Q hm a f) (B : LpB s Q hm I m a A w h cod f T len pj) (J : LpI s Q hm I m a w h cod f T pj T Q' I' m') (v : m 83 f = cod ∧ m 84 f = w ∧ m 85 f = h ∧ m 86 f = rt ∧ m 87 f = T ∧ m 88 f = len) (iv : I a 1 = w ∧ I a 2 = h ∧ I a 3 = rt ∧ I a 6 = len) (hrt : 1 ≤ rt ∧ rt ≤ 60) (e2 : ∀ j : Int, 0 ≤ j → j < T → I (a + 2) j = m 103 j ∧ I (a + 6) (m 103 j) = j) (e7 : ∀ k : Int, 0 ≤ k → k < T → (I (a + 7) k = 0 ∨ I (a + 7) k = 1) ∧ (I (a + 7) k = 1 ↔ m 102 k = 0 ∧ ∀ j : Int, k < j → j < T → m 103 k < m 103 j)) (e8 : ∀ x : Int, 0 ≤ x → x < 12 → I (a + 8) x = 0) (eb : ∀ i : Int, 0 ≤ i → i < len → m 89 (24100 * f + i) = jwb (m 112 i)) (V : PV cod T (m 102) (m 103) (m 104) (m 105) (m 106) len (fun i => m 112 i % 256)) : FilmC s Q' I' m' a f := by
  obtain ⟨ka, kA, kp⟩ := LpI_k F B J
  obtain ⟨⟨f0, f8⟩, ⟨b1, b2, b3, b4, b5, b6, b7⟩, ⟨sw, sh⟩, -, l1, eqs, ⟨qA, ⟨A1, A2, A3⟩, Al, Ab⟩, pcs, dst⟩ := B
  obtain ⟨j1, j2, j3, j4, j5, j6, j7, j8, j9⟩ := J
  obtain ⟨v1, v2, v3, v4, v5, v6⟩ := v
  obtain ⟨i1, i2, i3, i6⟩ := iv
  have a153 := F.1
  have t12 : T ≤ 12 := V.2.1
  have t1 : 1 ≤ T := V.1
  have hd := PV_hd V (k := 0) (by omega) (by omega)
  have z0 := (V.2.2.2.2.2.2.2 0 (by omega) (by omega)).2.2.2.2.1
  have w83 : m' 83 f = cod := by rw [j4 83 (by decide) (by decide)]; exact v1
  have w84 : m' 84 f = w := by rw [j4 84 (by decide) (by decide)]; exact v2
  have w85 : m' 85 f = h := by rw [j4 85 (by decide) (by decide)]; exact v3
  have w86 : m' 86 f = rt := by rw [j4 86 (by decide) (by decide)]; exact v4
  have w87 : m' 87 f = T := by rw [j4 87 (by decide) (by decide)]; exact v5
  have w88 : m' 88 f = len := by rw [j4 88 (by decide) (by decide)]; exact v6
  have w89 : ∀ i : Int, 0 ≤ i → i < len → m' 89 (24100 * f + i) = jwb (m 112 i) := fun i h1 h2 => by rw [j4 89 (by decide) (by decide)]; exact eb i h1 h2
  have pk := fun (k : Int) (k0 : 0 ≤ k) (k1 : k < T) => (j9 k k0 k1).1
  have i0 : I' a = I a := ka 0 (by decide)
  have qn : ∀ x : Nat, 25 ≤ x → Q' x = Q x := fun x hx => j1 x (by omega) (by omega)
  unfold FilmC
  rw [w83, w84, w85, w86, w87, w88, i0, qn a (by omega)]
  refine ⟨⟨b1, i1, i2, i3, b2, i6⟩, ⟨sw, sh, hrt.1, hrt.2, by omega, l1⟩, ⟨A, qA, Al, fun i h1 h2 => ?_⟩, PV_c V (fun k k0 k1 => (pk k k0 k1).1) (fun k k0 k1 => (pk k k0 k1).2.1) (fun k k0 k1 => (pk k k0 k1).2.2.1) (fun k k0 k1 => (pk k k0 k1).2.2.2.1) (fun k k0 k1 => (pk k k0 k1).2.2.2.2.1) (fun i h1 h2 => ?_), fun k k0 k1 => ?_⟩
  · rw [kA, w89 i h1 h2, jwb_jwb]
    exact Ab i h1 h2
  · show m' 89 (24100 * f + i) % 256 = m 112 i % 256
    rw [w89 i h1 h2]
    unfold jwb
    omega
  · obtain ⟨⟨p1, p2, p3, p4, p5, p6, p7, p8⟩, ⟨p9, pa, pb1, pc, pd, pe⟩, px, py⟩ := j9 k k0 k1
    obtain ⟨g1, g3, g4, g5⟩ := eqs k k0 k1
    obtain ⟨g2, g6⟩ := e2 k k0 k1
    obtain ⟨g7, g7'⟩ := e7 k k0 k1
    have hP := (V.2.2.2.2.2.2.2 k k0 k1).2.1
    obtain ⟨qk, pck, pw0, pw1⟩ := pcs k k0 k1
    unfold FilmK
    rw [w83, w84, w85, w87, p1, p2, p3, p4, p5, p6, ka 1 (by decide), ka 2 (by decide), ka 3 (by decide), ka 4 (by decide), ka 5 (by decide), ka 6 (by decide), ka 7 (by decide), ka 8 (by decide), qn (a + 9) (by omega)]
    refine ⟨⟨g1, g2, g3, g4, g5⟩, g6, ?_, ?_, pd, pe, ?_, ⟨p9, pa, pb1, pc⟩, ⟨pj k, qk, ?_, ?_, sw, sh, fun q j q0 q2 y0 y1 => ?_⟩, fun q x y q0 q2 x0 x1 y0 y1 => ?_, fun hc => ?_⟩
    · have : I (a + 7) k = m' 95 (12 * f + k) := by
        rcases g7 with e | e <;> rcases p7 with e' | e'
        · rw [e, e']
        · have := g7'.mpr (p8.mp e')
          omega
        · have := p8.mpr (g7'.mp e)
          omega
        · rw [e, e']
      rw [this]
    · rw [e8 (m 103 k) hP.1 (by omega)]
    · have e95 : m' 95 (12 * f + k) % 2 = 1 ↔ m' 95 (12 * f + k) = 1 := by
        rcases p7 with e' | e' <;> rw [e'] <;> decide
      refine e95.trans (p8.trans ⟨fun h => ⟨h.1, fun j y0 y1 => ?_⟩, fun h => ⟨h.1, fun j y0 y1 => ?_⟩⟩)
      · rw [(pk j (by omega) y1).2.1]
        exact h.2 j y0 y1
      · have := h.2 j y0 y1
        rw [(pk j (by omega) y1).2.1] at this
        exact this
    · rw [kp k k0 k1]
      exact pw0
    · rw [kp k k0 k1]
      exact pw1
    · have z := pl_sz sw sh q0 q2
      have hW : 0 < pw w q := by
        unfold pw
        rcases sw with e | e | e <;> rw [e] <;> split <;> omega
      obtain ⟨d1, d2, d3, d4⟩ := dm_r hW y0 y1
      have D := dm_e (pw w q) j
      obtain ⟨n1, n2, n3, n4, -⟩ := px q (j % pw w q) (j / pw w q) q0 q2 d3 d4 d1 d2
      rw [← D] at n1 n2 n3 n4
      show I' (pj k + 1) (pb w h q + j) = m' 99 (864 * (12 * f + k) + (pf q + j)) ∧ 0 ≤ m' 99 (864 * (12 * f + k) + (pf q + j)) ∧ m' 99 (864 * (12 * f + k) + (pf q + j)) ≤ 255
      rw [n2]
      exact ⟨n1, n3, n4⟩
    · exact (px q x y q0 q2 x0 x1 y0 y1).2.2.2.2
    · exact py hc
end FilmRead
