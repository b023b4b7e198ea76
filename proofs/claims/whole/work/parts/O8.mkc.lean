/-! making: what holds while a film is made -/
section MkCtx
variable {s s' s2 : hS} {Q Q' Q2 : hQ} {hm hm' hm2 : hO} {I I' I2 m m' m2 : jM} {a p b src : Nat} {f w h g k n d T cod len : Int} {K P B B' : Int → Int}
def PG (f o : Int) : Prop := ¬ (1043 ≤ o ∧ o ≤ 1067) ∧ o ≠ 560 ∧ o ≠ 500 + f ∧ o ≠ 540 + f ∧ ¬ (200 + 12 * f ≤ o ∧ o < 200 + 12 * f + 12)
/-- what making leaves in the model -/
def MG (m m' : jM) : Prop := (∀ c : Nat, c ≠ 76 → ¬ (102 ≤ c ∧ c ≤ 117) → ¬ (122 ≤ c ∧ c ≤ 125) → m' c = m c) ∧ ∀ z : Int, z < 35 ∨ 84 ≤ z → m' 76 z = m 76 z
theorem MG_refl : MG m m := ⟨fun _ _ _ _ => rfl, fun _ _ => rfl⟩
theorem MG_t (A : MG m m') (B : MG m' m2) : MG m m2 := ⟨fun c c1 c2 c3 => (B.1 c c1 c2 c3).trans (A.1 c c1 c2 c3), fun z hz => (B.2 z hz).trans (A.2 z hz)⟩
/-- how much is taken: the writer's row, the film's bytes -/
def Gm (a : Nat) (s : hS) (Q : hQ) (s' : hS) (Q' : hQ) : Prop := s.1 ≤ s'.1 ∧ s'.1 + (bzR s Q a + nW Q) ≤ s.1 + (bzR s' Q' a + nW Q') ∧ s'.2.1 + (24067 * bzR s Q a + 4000 * nW Q) ≤ s.2.1 + (24067 * bzR s' Q' a + 4000 * nW Q')
theorem Gm_refl : Gm a s Q s Q := ⟨Nat.le_refl _, Nat.le_refl _, Nat.le_refl _⟩
theorem Gm_t (A : Gm a s Q s' Q') (B : Gm a s' Q' s2 Q2) : Gm a s Q s2 Q2 := by
  unfold Gm at *
  generalize bzR s Q a = z1 at *
  generalize bzR s' Q' a = z2 at *
  generalize bzR s2 Q2 a = z3 at *
  generalize nW Q = y1 at *
  generalize nW Q' = y2 at *
  generalize nW Q2 = y3 at *
  omega
theorem Gm_3 (A : Gm a s Q s' Q') : s'.1 ≤ s.1 + 3 ∧ s'.2.1 ≤ s.2.1 + 52134 := by
  have h1 := bzR_2 (s := s') (Q := Q') (a := a)
  have h2 := nW_le (Q := Q')
  unfold Gm at A
  generalize bzR s Q a = z1 at *
  generalize bzR s' Q' a = z2 at *
  generalize nW Q = y1 at *
  generalize nW Q' = y2 at *
  omega
theorem bzR_c (h1 : Q' a 5 = Q a 5) (h2 : ∀ b, Q a 5 = some b → s'.2.2.2 b = s.2.2.2 b) : bzR s' Q' a = bzR s Q a := by
  cases e : Q a 5 with
  | none => rw [bzR_n e, bzR_n (h1.trans e)]
  | some b =>
    by_cases c : s.2.2.2 b = 4000
    · rw [bzR_s e c, bzR_s (h1.trans e) ((h2 b e).trans c)]
    · rw [bzR_l e c, bzR_l (h1.trans e) (by rw [h2 b e]; exact c)]
def MkC (s : hS) (Q : hQ) (hm : hO) (I m : jM) (a : Nat) (f w h T cod : Int) : Prop := (Lay s Q hm ∧ FilmAt s Q hm a f ∧ 0 ≤ f ∧ f < 8) ∧ (∀ b, Q 43 0 = some b → 153 ≤ b ∧ Ce s hm b 1 4000 560) ∧ (m 76 32 = cod ∧ m 76 33 = w ∧ m 76 34 = h ∧ isSd w ∧ isSd h) ∧ (1 ≤ T ∧ T ≤ 12 ∧ I 42 5 = T ∧ Q 42 6 = some 3) ∧ (∀ k : Int, 0 ≤ k → k < 8 → I 3 k = m 82 k ∧ stOk k (m 82 k)) ∧ (∀ i : Int, 0 ≤ i → i < T → ∃ src, Q 68 i = some src ∧ PicAt s Q hm src (100 + i) ∧ Pix I src w h (fun j => m 121 (864 * i + j))) ∧ (∀ j : Int, 0 ≤ j → j < T → ∃ p, Q (a + 9) j = some p ∧ I p 0 = w ∧ I p 1 = h) ∧ ∀ j : Int, 0 ≤ j → j < T → 0 ≤ I (a + 1) j ∧ I (a + 1) j ≤ 2
theorem MkC_fr (C : MkC s Q hm I m a f w h T cod) (S : Sm (PG f) s Q hm I s' Q' hm' I') (L' : Lay s' Q' hm') (F' : FilmAt s' Q' hm' a f) (hb' : ∀ b, Q' 43 0 = some b → 153 ≤ b ∧ Ce s' hm' b 1 4000 560) (M : MG m m') (c8 : ∀ j : Int, 0 ≤ j → j < T → ∃ p, Q' (a + 9) j = some p ∧ I' p 0 = w ∧ I' p 1 = h) (c9 : I' (a + 1) = I (a + 1)) : MkC s' Q' hm' I' m' a f w h T cod := by
  obtain ⟨⟨L, F, f0, f8⟩, -, ⟨m32, m33, m34, sw, sh⟩, ⟨T1, T2, i5, q6⟩, c5, c6, -, x9⟩ := C
  have q42 := Lay_fr (a := 42) L S (by decide) (by unfold PG; omega)
  have q3 := Lay_fr (a := 3) L S (by decide) (by unfold PG; omega)
  have q68 := Lay_fr (a := 68) L S (by decide) (by unfold PG; omega)
  have e82 : m' 82 = m 82 := M.1 82 (by decide) (by decide) (by decide)
  have e121 : m' 121 = m 121 := M.1 121 (by decide) (by decide) (by decide)
  refine ⟨⟨L', F', f0, f8⟩, hb', ⟨by rw [M.2 32 (by decide)]; exact m32, by rw [M.2 33 (by decide)]; exact m33, by rw [M.2 34 (by decide)]; exact m34, sw, sh⟩, ⟨T1, T2, by rw [q42.2]; exact i5, by rw [q42.1]; exact q6⟩, fun k k0 k1 => by rw [q3.2, e82]; exact c5 k k0 k1, fun i i0 i1 => ?_, c8, by rw [c9]; exact x9⟩
  obtain ⟨src, h1, h2, h3⟩ := c6 i i0 i1
  obtain ⟨P', j1, j2⟩ := PicAt_fr S h2 (by unfold PG; omega)
  exact ⟨src, by rw [q68.1]; exact h1, P', by rw [e121]; exact Pix_fr h3 j1 j2⟩
/-- the group that is made now -/
def GrC (I m : jM) (a : Nat) (g n d T : Int) : Prop := (m 76 35 = n ∧ m 76 36 = 0) ∧ LG (kkG n d) (ssG n d) n n ∧ (0 ≤ g ∧ 1 ≤ n ∧ g + n ≤ T) ∧ ∀ j : Int, 0 ≤ j → j < n → m 102 j = kkG n d j ∧ m 103 j = g + ssG n d j ∧ I (a + 1) (g + j) = kkG n d j ∧ I (a + 2) (g + j) = g + ssG n d j
theorem LG_k (G : LG K P n n) {j : Int} (j0 : 0 ≤ j) (j1 : j < n) : 0 ≤ K j ∧ K j ≤ 2 ∧ 0 ≤ P j ∧ P j < n := by
  obtain ⟨g1, g2, g3⟩ := G
  by_cases c : j = 0
  · rw [c, g1, g2]
    omega
  · obtain ⟨h1, h2⟩ := g3 j (by omega) j1
    rcases h2 with ⟨e, -⟩ | ⟨e, -⟩ <;> omega
theorem PKm_of (C : MkC s Q hm I m a f w h T 0) (Gr : GrC I m a g n d T) (k0 : 0 ≤ k) (k1 : k < n) (R : ∀ j : Int, 0 ≤ j → j < k → ∃ b, Q (a + 9) (g + j) = some b ∧ RfE s Q I m b w h j) : ∃ p src : Nat, Q (a + 9) (g + k) = some p ∧ Q 68 (m 103 k) = some src ∧ (0 ≤ m 103 k ∧ m 103 k < T) ∧ I (a + 2) (g + k) = m 103 k ∧ PKm s Q hm I m a p src f w h g k (m 102 k) (m 82 3) (100 + m 103 k) := by
  obtain ⟨⟨L, F, f0, f8⟩, -, ⟨m32, m33, m34, sw, sh⟩, ⟨T1, T2, i5, q6⟩, c5, c6, c8, c9⟩ := C
  obtain ⟨⟨m35, m36⟩, G, ⟨g0, n1, gn⟩, hj⟩ := Gr
  obtain ⟨u1, u2, u3, u4⟩ := hj k k0 k1
  obtain ⟨-, -, v3, v4⟩ := LG_k G k0 k1
  obtain ⟨src, h1, h2, ⟨h3, h4, -, -, h5⟩⟩ := c6 (m 103 k) (by omega) (by omega)
  obtain ⟨p, p1, p2, p3⟩ := c8 (g + k) (by omega) (by omega)
  have z0 : m 102 0 = 0 := by rw [(hj 0 (by omega) (by omega)).1]; exact G.1
  have ac : ∀ t : Nat, (t : Int) ≤ n → anc (m 102) 0 t = anc (kkG n d) 0 t := fun t ht => anc_c (fun i i0 i1 => (hj i (by omega) (by omega)).1)
  obtain ⟨st3, -⟩ := c5 3 (by decide) (by decide)
  have so := (c5 3 (by decide) (by decide)).2
  refine ⟨p, src, p1, h1, ⟨by omega, by omega⟩, by omega, F, ⟨f0, f8⟩, ⟨m32, m33, m34, m36, sw, sh⟩, ⟨g0, k0, by omega, rfl⟩, fun j j0 j1 => ?_, fun j j0 j1 => ?_, ⟨z0, fun e => ?_⟩, R, ⟨p1, p2, p3⟩, ⟨h2, ⟨by omega, by omega⟩, h3, h4, by omega, by omega, fun pl j p0 p2 j0 j1 => h5 pl j p0 p2 j0 j1⟩, ⟨rfl, ?_⟩⟩
  · obtain ⟨w1, -, w3, -⟩ := hj j j0 (by omega)
    obtain ⟨w5, w6, -, -⟩ := LG_k G j0 (show j < n by omega)
    rw [w1, w3]
    exact ⟨rfl, w5, w6⟩
  · have := c9 j j0 (by omega)
    exact ⟨by omega, by omega⟩
  · have k2 : 1 ≤ k := by
      by_cases c : k = 0
      · rw [c, z0] at e
        exact absurd e (by decide)
      · omega
    rcases (G.2.2 k k2 k1).2 with ⟨e1, -⟩ | ⟨-, -, e3, -⟩
    · omega
    · rw [ac k.toNat (by omega)]
      have ar := anc_r (K := kkG n d) (fr := 0) k.toNat
      exact anc_ge (K := m 102) (by rw [z0]; decide) (by omega)
  · unfold stOk at so
    rcases so with ⟨x, -⟩ | ⟨x, y⟩
    · omega
    · exact ⟨x, y⟩
/-- heads of pictures as bytes, as far as len -/
def HBy (B K P : Int → Int) (cod cnt len : Int) : Prop := ∃ Hd Z St : Int → Int, Hd 0 = 7 ∧ Hd cnt = len ∧ ∀ q : Int, 0 ≤ q → q < cnt → (0 ≤ Z q ∧ Z q ≤ 2000) ∧ (cod = 0 → 1 ≤ St q ∧ St q ≤ 31) ∧ (cod ≠ 0 → St q = 0) ∧ (7 ≤ Hd q ∧ Hd q + 5 + Z q = Hd (q + 1) ∧ Hd (q + 1) ≤ len) ∧ B (Hd q) = jwb (K q) ∧ B (Hd q + 1) = jwb (P q) ∧ B (Hd q + 2) = jwb (St q) ∧ B (Hd q + 3) = jwb (Z q / 256) ∧ B (Hd q + 4) = jwb (Z q % 256)
theorem HBy_s {cnt st z : Int} (c0 : 0 ≤ cnt) (l7 : 7 ≤ len) (W : HBy B K P cod cnt len) (z0 : 0 ≤ z) (z1 : z ≤ 2000) (s0 : cod = 0 → 1 ≤ st ∧ st ≤ 31) (s1 : cod ≠ 0 → st = 0) (e : ∀ i : Int, i < len → B' i = B i) (b0 : B' len = jwb (K cnt)) (b1 : B' (len + 1) = jwb (P cnt)) (b2 : B' (len + 2) = jwb st) (b3 : B' (len + 3) = jwb (z / 256)) (b4 : B' (len + 4) = jwb (z % 256)) : HBy B' K P cod (cnt + 1) (len + 5 + z) := by
  obtain ⟨Hd, Z, St, h0, h1, hq⟩ := W
  refine ⟨fun q => if q = cnt + 1 then len + 5 + z else Hd q, fun q => if q = cnt then z else Z q, fun q => if q = cnt then st else St q, ?_, if_pos rfl, fun q q0 q1 => ?_⟩
  · show (if (0 : Int) = cnt + 1 then len + 5 + z else Hd 0) = 7
    rw [if_neg (by omega)]
    exact h0
  · have n1 : ¬ q = cnt + 1 := by omega
    dsimp only
    rw [if_neg n1]
    by_cases c : q = cnt
    · subst c
      rw [if_pos rfl, if_pos rfl, if_pos rfl, h1]
      exact ⟨⟨z0, z1⟩, s0, s1, ⟨l7, rfl, Int.le_refl _⟩, b0, b1, b2, b3, b4⟩
    · rw [if_neg c, if_neg c, if_neg (show ¬ q + 1 = cnt + 1 by omega)]
      obtain ⟨x1, x2, x3, ⟨x4, x5, x6⟩, y0, y1, y2, y3, y4⟩ := hq q q0 (by omega)
      refine ⟨x1, x2, x3, ⟨x4, x5, by omega⟩, ?_, ?_, ?_, ?_, ?_⟩
      · rw [e _ (by omega)]; exact y0
      · rw [e _ (by omega)]; exact y1
      · rw [e _ (by omega)]; exact y2
      · rw [e _ (by omega)]; exact y3
      · rw [e _ (by omega)]; exact y4
theorem HBy_c (W : HBy B K P cod k len) (e : ∀ i : Int, i < len → B' i = B i) : HBy B' K P cod k len := by
  obtain ⟨Hd, Z, St, h0, h1, hq⟩ := W
  refine ⟨Hd, Z, St, h0, h1, fun q q0 q1 => ?_⟩
  obtain ⟨x1, x2, x3, ⟨x4, x5, x6⟩, y0, y1, y2, y3, y4⟩ := hq q q0 q1
  refine ⟨x1, x2, x3, ⟨x4, x5, x6⟩, ?_, ?_, ?_, ?_, ?_⟩
  · rw [e _ (by omega)]; exact y0
  · rw [e _ (by omega)]; exact y1
  · rw [e _ (by omega)]; exact y2
  · rw [e _ (by omega)]; exact y3
  · rw [e _ (by omega)]; exact y4
end MkCtx
