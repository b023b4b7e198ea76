/-! what stays when other cells change -/
def Sm (P : Int → Prop) (s : hS) (Q : hQ) (hm : hO) (I : jM) (s' : hS) (Q' : hQ) (hm' : hO) (I' : jM) : Prop := s.1 ≤ s'.1 ∧ ∀ a, a < s.1 → P (hm a) → s'.2.2.1 a = s.2.2.1 a ∧ s'.2.2.2 a = s.2.2.2 a ∧ Q' a = Q a ∧ I' a = I a ∧ hm' a = hm a
section RelFr
variable {P : Int → Prop} {s s' : hS} {Q Q' : hQ} {hm hm' : hO} {I I' m m' : jM} {a t n : Nat} {o w h : Int} {g g' : Int → Int} {r : Option Nat}
theorem Ce_fr (S : Sm P s Q hm I s' Q' hm' I') (c : Ce s hm a t n o) (p : P o) : Ce s' hm' a t n o ∧ Q' a = Q a ∧ I' a = I a := by
  obtain ⟨c1, c2, c3, c4⟩ := c
  obtain ⟨e1, e2, e3, e4, e5⟩ := S.2 a c1 (by rw [c4]; exact p)
  exact ⟨⟨Nat.lt_of_lt_of_le c1 S.1, e1.trans c2, e2.trans c3, e5.trans c4⟩, e3, e4⟩
theorem PicAt_fr (S : Sm P s Q hm I s' Q' hm' I') (c : PicAt s Q hm a o) (p : P o) : PicAt s' Q' hm' a o ∧ I' a = I a ∧ I' (a + 1) = I (a + 1) := by
  obtain ⟨c1, c2, c3, c4⟩ := c
  obtain ⟨d1, d2, d3⟩ := Ce_fr S c2 p
  obtain ⟨e1, e2, e3⟩ := Ce_fr S c3 p
  exact ⟨⟨c1, d1, e1, by rw [d2]; exact c4⟩, d3, e3⟩
theorem Sl_fr (S : Sm P s Q hm I s' Q' hm' I') (c : Sl s Q hm r o) (p : P o) : Sl s' Q' hm' r o := fun a ha => (PicAt_fr S (c a ha) p).1
theorem Pix_fr (c : Pix I a w h g) (e1 : I' a = I a) (e2 : I' (a + 1) = I (a + 1)) : Pix I' a w h g := by
  unfold Pix at c ⊢
  rw [e1, e2]
  exact c
theorem Pix_g (c : Pix I a w h g) (e : ∀ p k : Int, 0 ≤ p → p ≤ 2 → 0 ≤ k → k < pw w p * pw h p → g' (pf p + k) = g (pf p + k)) : Pix I a w h g' := by
  obtain ⟨c1, c2, c3, c4, c5⟩ := c
  refine ⟨c1, c2, c3, c4, fun p k h1 h2 h3 h4 => ?_⟩
  rw [e p k h1 h2 h3 h4]
  exact c5 p k h1 h2 h3 h4
theorem Lay_ce (L : Lay s Q hm) (ha : a < 76) : Ce s hm a (sk a).1 (sk a).2 (1000 + (a : Int)) := L.2.1 a ha
theorem Lay_fr (L : Lay s Q hm) (S : Sm P s Q hm I s' Q' hm' I') (ha : a < 76) (p : P (1000 + (a : Int))) : Q' a = Q a ∧ I' a = I a := (Ce_fr S (L.2.1 a ha) p).2
theorem RPic_fr (L : Lay s Q hm) (S : Sm P s Q hm I s' Q' hm' I') (p1 : P 1001) (p2 : ∀ i : Int, 0 ≤ i → i < 60 → P i) (i0 : I' 0 1 = I 0 1) (m0 : m' 76 1 = m 76 1) (m1 : m' 77 = m 77) (m2 : m' 78 = m 78) (m3 : m' 79 = m 79) (c : RPic s Q hm I m) : RPic s' Q' hm' I' m' := by
  have q1 : Q' 1 = Q 1 := (Lay_fr (a := 1) L S (by decide) p1).1
  obtain ⟨c1, c2, c3, c4, c5⟩ := c
  unfold RPic
  rw [i0, m0, m1, m2, m3, q1]
  refine ⟨c1, c2, c3, fun i h1 h2 => Sl_fr S (c4 i h1 h2) (p2 i h1 h2), fun i h1 h2 => ?_⟩
  obtain ⟨a, ha, hx⟩ := c5 i h1 h2
  obtain ⟨-, e1, e2⟩ := PicAt_fr S (c4 i h1 (by omega) a ha) (p2 i h1 (by omega))
  exact ⟨a, ha, Pix_fr hx e1 e2⟩
theorem RTap_fr (i0 : I' 0 3 = I 0 3) (i1 : I' 2 = I 2) (m0 : m' 76 5 = m 76 5) (m1 : m' 80 = m 80) (c : RTap I m) : RTap I' m' := by
  unfold RTap at c ⊢
  rw [i0, i1, m0, m1]
  exact c
theorem RSet_fr (i1 : I' 3 = I 3) (m1 : m' 82 = m 82) (c : RSet I m) : RSet I' m' := by
  unfold RSet at c ⊢
  rw [i1, m1]
  exact c
theorem RRee_fr (L : Lay s Q hm) (S : Sm P s Q hm I s' Q' hm' I') (p1 : P 1004) (p2 : ∀ i : Int, 100 ≤ i → i < 112 → P i) (i0 : I' 0 6 = I 0 6) (m0 : m' 76 7 = m 76 7) (m1 : m' 76 8 = m 76 8) (m2 : m' 76 9 = m 76 9) (m3 : m' 81 = m 81) (c : RRee s Q hm I m) : RRee s' Q' hm' I' m' := by
  have q1 : Q' 4 = Q 4 := (Lay_fr (a := 4) L S (by decide) p1).1
  obtain ⟨c1, c2, c3, c4, c5⟩ := c
  unfold RRee
  rw [i0, m0, m1, m2, m3, q1]
  refine ⟨c1, c2, c3, fun i h1 h2 => Sl_fr S (c4 i h1 h2) (p2 _ (by omega) (by omega)), fun i h1 h2 => ?_⟩
  obtain ⟨a, ha, hx⟩ := c5 i h1 h2
  obtain ⟨-, e1, e2⟩ := PicAt_fr S (c4 i h1 (by omega) a ha) (p2 _ (by omega) (by omega))
  exact ⟨a, ha, Pix_fr hx e1 e2⟩
theorem FilmAt_fr {f : Int} (S : Sm P s Q hm I s' Q' hm' I') (hf : 0 ≤ f ∧ f < 8) (p2 : ∀ i : Int, 200 ≤ i → i < 296 → P i) (p3 : ∀ i : Int, 500 ≤ i → i < 508 → P i) (p4 : ∀ i : Int, 540 ≤ i → i < 548 → P i) (c : FilmAt s Q hm a f) : FilmAt s' Q' hm' a f ∧ (∀ j : Nat, j < 13 → Q' (a + j) = Q (a + j) ∧ I' (a + j) = I (a + j)) ∧ (∀ b, Q a 5 = some b → s'.2.2.2 b = s.2.2.2 b ∧ I' b = I b) ∧ (∀ k : Int, 0 ≤ k → k < 12 → ∀ p, Q (a + 9) k = some p → I' p = I p ∧ I' (p + 1) = I (p + 1)) := by
  obtain ⟨c1, c2, c3, c4, c5⟩ := c
  have h0 := fun (j : Nat) (hj : j < 13) => Ce_fr S (c2 j hj) (p3 _ (by omega) (by omega))
  have q0 : Q' a = Q a := (h0 0 (by decide)).2.1
  have q9 : Q' (a + 9) = Q (a + 9) := (h0 9 (by decide)).2.1
  refine ⟨⟨c1, fun j hj => (h0 j hj).1, ?_, ?_, ?_⟩, fun j hj => (h0 j hj).2, ?_, ?_⟩
  · rw [q0]; exact c3
  · rw [q0]
    intro b hb
    obtain ⟨d1, n, d2, d3⟩ := c4 b hb
    exact ⟨d1, n, d2, (Ce_fr S d3 (p4 _ (by omega) (by omega))).1⟩
  · rw [q9]
    intro k h1 h2
    exact Sl_fr S (c5 k h1 h2) (p2 _ (by omega) (by omega))
  · intro b hb
    obtain ⟨d1, n, d2, d3⟩ := c4 b hb
    obtain ⟨e1, e2, e3⟩ := Ce_fr S d3 (p4 _ (by omega) (by omega))
    exact ⟨e1.2.2.1.trans d3.2.2.1.symm, e3⟩
  · intro k h1 h2 p hp
    exact (PicAt_fr S (c5 k h1 h2 p hp) (p2 _ (by omega) (by omega))).2
theorem FilmC_fr {f : Int} (F : FilmAt s Q hm a f) (e0 : ∀ j : Nat, j < 13 → Q' (a + j) = Q (a + j) ∧ I' (a + j) = I (a + j)) (e1 : ∀ b, Q a 5 = some b → s'.2.2.2 b = s.2.2.2 b ∧ I' b = I b) (e2 : ∀ k : Int, 0 ≤ k → k < 12 → ∀ p, Q (a + 9) k = some p → I' p = I p ∧ I' (p + 1) = I (p + 1)) (em : ∀ x : Nat, 83 ≤ x → x ≤ 101 → m' x = m x) (c : FilmC s Q I m a f) : FilmC s' Q' I' m' a f := by
  have q0 : Q' a = Q a := (e0 0 (by decide)).1
  have i0 : I' a = I a := (e0 0 (by decide)).2
  have q9 : Q' (a + 9) = Q (a + 9) := (e0 9 (by decide)).1
  have ij := fun (j : Nat) (hj : j < 13) => (e0 j hj).2
  have m83 := em 83 (by decide) (by decide)
  have m84 := em 84 (by decide) (by decide)
  have m85 := em 85 (by decide) (by decide)
  have m86 := em 86 (by decide) (by decide)
  have m87 := em 87 (by decide) (by decide)
  have m88 := em 88 (by decide) (by decide)
  have m89 := em 89 (by decide) (by decide)
  have m90 := em 90 (by decide) (by decide)
  have m91 := em 91 (by decide) (by decide)
  have m92 := em 92 (by decide) (by decide)
  have m93 := em 93 (by decide) (by decide)
  have m94 := em 94 (by decide) (by decide)
  have m95 := em 95 (by decide) (by decide)
  have m96 := em 96 (by decide) (by decide)
  have m97 := em 97 (by decide) (by decide)
  have m98 := em 98 (by decide) (by decide)
  have m99 := em 99 (by decide) (by decide)
  have m100 := em 100 (by decide) (by decide)
  have m101 := em 101 (by decide) (by decide)
  obtain ⟨c1, c2, ⟨b, c3, c3', c3''⟩, c4, c5⟩ := c
  unfold FilmC
  rw [i0, q0, m83, m84, m85, m86, m87, m88, m89, m90, m91, m92, m93, m94]
  refine ⟨c1, c2, ⟨b, c3, ?_, ?_⟩, c4, fun k h1 h2 => ?_⟩
  · rw [(e1 b c3).1]; exact c3'
  · rw [(e1 b c3).2]; exact c3''
  · have hk : k < 12 := by have := c4.2.1; omega
    obtain ⟨d1, d2, d3, d4, d5, d6, d7, d8, ⟨p, d9, d9'⟩, d10, d11⟩ := c5 k h1 h2
    unfold FilmK
    rw [ij 1 (by decide), ij 2 (by decide), ij 3 (by decide), ij 4 (by decide), ij 5 (by decide), ij 6 (by decide), ij 7 (by decide), ij 8 (by decide), ij 10 (by decide), ij 11 (by decide), ij 12 (by decide), q9, m83, m84, m85, m87, m90, m91, m92, m93, m94, m95, m96, m97, m98, m99, m100, m101]
    exact ⟨d1, d2, d3, d4, d5, d6, d7, d8, ⟨p, d9, Pix_fr d9' (e2 k h1 hk p d9).1 (e2 k h1 hk p d9).2⟩, d10, d11⟩
theorem RFil_fr (L : Lay s Q hm) (S : Sm P s Q hm I s' Q' hm' I') (p1 : P 1005) (p2 : ∀ i : Int, 200 ≤ i → i < 296 → P i) (p3 : ∀ i : Int, 500 ≤ i → i < 508 → P i) (p4 : ∀ i : Int, 540 ≤ i → i < 548 → P i) (i0 : I' 0 8 = I 0 8) (m0 : m' 76 12 = m 76 12) (em : ∀ x : Nat, 83 ≤ x → x ≤ 101 → m' x = m x) (c : RFil s Q hm I m) : RFil s' Q' hm' I' m' := by
  have q1 : Q' 5 = Q 5 := (Lay_fr (a := 5) L S (by decide) p1).1
  obtain ⟨c1, c2, c3, c4, c5⟩ := c
  unfold RFil
  rw [i0, m0, q1]
  refine ⟨c1, c2, c3, fun f h1 h2 a ha => (FilmAt_fr S ⟨h1, h2⟩ p2 p3 p4 (c4 f h1 h2 a ha)).1, fun f h1 h2 => ?_⟩
  obtain ⟨a, ha, hx⟩ := c5 f h1 h2
  have F := c4 f h1 (by omega) a ha
  obtain ⟨-, e0, e1, e2⟩ := FilmAt_fr S ⟨h1, by omega⟩ p2 p3 p4 F
  exact ⟨a, ha, FilmC_fr F e0 e1 e2 em hx⟩
theorem RRow_fr (i0 : I' 0 10 = I 0 10) (i1 : I' 6 = I 6) (m0 : m' 76 86 = m 76 86) (m1 : m' 76 12 = m 76 12) (m2 : m' 131 = m 131) (m3 : m' 132 = m 132) (m4 : m' 133 = m 133) (m5 : m' 83 = m 83) (m6 : m' 87 = m 87) (c : RRow I m) : RRow I' m' := by
  unfold RRow at c ⊢
  rw [i0, i1, m0, m1, m2, m3, m4, m5, m6]
  exact c
theorem FltAt_fr {q : Int} (S : Sm P s Q hm I s' Q' hm' I') (p : P (520 + q)) (c : FltAt s Q hm a q) : FltAt s' Q' hm' a q ∧ I' a = I a ∧ I' (a + 1) = I (a + 1) := by
  obtain ⟨c1, c2, c3, c4, c5, c6⟩ := c
  obtain ⟨d1, d2, d3⟩ := Ce_fr S c2 p
  obtain ⟨e1, e2, e3⟩ := Ce_fr S c3 p
  obtain ⟨f1, f2, f3⟩ := Ce_fr S c4 p
  exact ⟨⟨c1, d1, e1, f1, by rw [d2]; exact c5, by rw [d2]; exact c6⟩, d3, e3⟩
theorem RFlt_fr (L : Lay s Q hm) (S : Sm P s Q hm I s' Q' hm' I') (p1 : P 1007) (p2 : ∀ i : Int, 520 ≤ i → i < 528 → P i) (i0 : I' 0 12 = I 0 12) (m0 : m' 76 92 = m 76 92) (m1 : m' 135 = m 135) (m2 : m' 136 = m 136) (m3 : m' 137 = m 137) (c : RFlt s Q hm I m) : RFlt s' Q' hm' I' m' := by
  have q1 : Q' 7 = Q 7 := (Lay_fr (a := 7) L S (by decide) p1).1
  obtain ⟨c1, c2, c3, c4, c5⟩ := c
  unfold RFlt
  rw [i0, m0, q1]
  refine ⟨c1, c2, c3, fun q h1 h2 a ha => (FltAt_fr S (p2 _ (by omega) (by omega)) (c4 q h1 h2 a ha)).1, fun q h1 h2 => ?_⟩
  obtain ⟨a, ha, hx⟩ := c5 q h1 h2
  obtain ⟨-, e1, e2⟩ := FltAt_fr S (p2 _ (by omega) (by omega)) (c4 q h1 (by omega) a ha)
  refine ⟨a, ha, ?_⟩
  unfold FltC at hx ⊢
  rw [e1, e2, m1, m2, m3]
  exact hx
theorem RMis_fr (L : Lay s Q hm) (S : Sm P s Q hm I s' Q' hm' I') (p1 : P 1043) (p2 : P 560) (p3 : P 1037) (p4 : ∀ i : Int, 400 ≤ i → i < 412 → P i) (p5 : ∀ i : Int, 450 ≤ i → i < 454 → P i) (p6 : ∀ i : Int, 1072 ≤ i → i < 1076 → P i) (c : RMis s Q hm) : RMis s' Q' hm' := by
  have q1 : Q' 43 = Q 43 := (Lay_fr (a := 43) L S (by decide) p1).1
  have q2 : Q' 37 = Q 37 := (Lay_fr (a := 37) L S (by decide) p3).1
  obtain ⟨c1, c2, c3⟩ := c
  unfold RMis
  rw [q1, q2]
  refine ⟨fun b hb => ⟨(c1 b hb).1, (Ce_fr S (c1 b hb).2 p2).1⟩, fun k h1 h2 => Sl_fr S (c2 k h1 h2) (p4 _ (by omega) (by omega)), fun y hy => ?_⟩
  rw [(Lay_fr (a := 72 + y) L S (by omega) (p6 _ (by omega) (by omega))).1]
  exact Sl_fr S (c3 y hy) (p5 _ (by omega) (by omega))
theorem RPly_fr (L : Lay s Q hm) (S : Sm P s Q hm I s' Q' hm' I') (p1 : P 1005) (p5 : ∀ i : Int, 450 ≤ i → i < 454 → P i) (p6 : ∀ i : Int, 1072 ≤ i → i < 1076 → P i) (m0 : m' 76 12 = m 76 12) (em : ∀ x : Nat, 84 ≤ x → x ≤ 88 → m' x = m x) (en : ∀ x : Nat, 141 ≤ x → x ≤ 151 → m' x = m x) (M : RMis s Q hm) (c : RPly Q I m) : RPly Q' I' m' := by
  have q1 : Q' 5 = Q 5 := (Lay_fr (a := 5) L S (by decide) p1).1
  intro y hy
  obtain ⟨q2, i2⟩ := Lay_fr (a := 72 + y) L S (by omega) (p6 _ (by omega) (by omega))
  have H := c y hy
  unfold PlyC at H ⊢
  rw [q1, q2, i2, m0, em 84 (by decide) (by decide), em 85 (by decide) (by decide), em 87 (by decide) (by decide), em 88 (by decide) (by decide), en 141 (by decide) (by decide), en 142 (by decide) (by decide), en 143 (by decide) (by decide), en 144 (by decide) (by decide), en 145 (by decide) (by decide), en 146 (by decide) (by decide), en 147 (by decide) (by decide), en 148 (by decide) (by decide), en 149 (by decide) (by decide), en 150 (by decide) (by decide), en 151 (by decide) (by decide)]
  rcases H with H | ⟨h1, h2, h3, h4, h5, h6, h7, h8, h9, h10, h11, h12, h13, h14, p, hp, hx⟩
  · exact Or.inl H
  · obtain ⟨-, e1, e2⟩ := PicAt_fr S (M.2.2 y hy p hp) (p5 _ (by omega) (by omega))
    exact Or.inr ⟨h1, h2, h3, h4, h5, h6, h7, h8, h9, h10, h11, h12, h13, h14, p, hp, fun q => Pix_fr (hx q) e1 e2⟩
end RelFr
