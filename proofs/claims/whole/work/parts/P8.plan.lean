/-! planning: the invariant of a group that is tried -/
section PlanI
variable {s s' : hS} {Q Q' : hQ} {hm hm' : hO} {I I' m m' : jM} {a p src : Nat} {f w h T q n d k sum kn : Int} {X : Int → Int}
def mkG (q n d j : Int) : Int := 3 * (q + ssG n d j) + kkG n d j
/-- owners that planning leaves alone -/
def PH (f o : Int) : Prop := ¬ (1043 ≤ o ∧ o ≤ 1060) ∧ o ≠ 1071 ∧ o ≠ 560 ∧ o ≠ 500 + f ∧ ¬ (200 + 12 * f ≤ o ∧ o < 200 + 12 * f + 12)
def MH (m m' : jM) : Prop := (∀ c : Nat, c ≠ 76 → ¬ (102 ≤ c ∧ c ≤ 117) → ¬ (122 ≤ c ∧ c ≤ 125) → m' c = m c) ∧ (∀ z : Int, z < 35 ∨ 84 ≤ z → m' 76 z = m 76 z) ∧ (∀ z : Int, m' 76 z = m 76 z ∨ z ≠ 47)
theorem MkP_h {w h T cod : Int} (C : MkP s Q hm I m a f w h T cod) (S : Sm (PH f) s Q hm I s' Q' hm' I') (L' : Lay s' Q' hm') (F' : FilmAt s' Q' hm' a f) (hb' : ∀ b, Q' 43 0 = some b → 153 ≤ b ∧ Ce s' hm' b 1 4000 560) (M : MG m m') : MkP s' Q' hm' I' m' a f w h T cod := by
  obtain ⟨⟨L, F, f0, f8⟩, -, ⟨m32, m33, m34, sw, sh⟩, ⟨T1, T2, i5, q6⟩, c5, c6⟩ := C
  have q42 := Lay_fr (a := 42) L S (by decide) (by unfold PH; omega)
  have q3 := Lay_fr (a := 3) L S (by decide) (by unfold PH; omega)
  have q68 := Lay_fr (a := 68) L S (by decide) (by unfold PH; omega)
  have e82 : m' 82 = m 82 := M.1 82 (by decide) (by decide) (by decide)
  have e121 : m' 121 = m 121 := M.1 121 (by decide) (by decide) (by decide)
  refine ⟨⟨L', F', f0, f8⟩, hb', ⟨by rw [M.2 32 (by decide)]; exact m32, by rw [M.2 33 (by decide)]; exact m33, by rw [M.2 34 (by decide)]; exact m34, sw, sh⟩, ⟨T1, T2, by rw [q42.2]; exact i5, by rw [q42.1]; exact q6⟩, fun k k0 k1 => by rw [q3.2, e82]; exact c5 k k0 k1, fun i i0 i1 => ?_⟩
  obtain ⟨src, h1, h2, h3⟩ := c6 i i0 i1
  obtain ⟨P', j1, j2⟩ := PicAt_fr S h2 (by unfold PH; omega)
  exact ⟨src, by rw [q68.1]; exact h1, P', by rw [e121]; exact Pix_fr h3 j1 j2⟩
/-- pictures of the film are ready -/
def Rdy (Q : hQ) (I : jM) (a : Nat) (w h T : Int) : Prop := ∀ j : Int, 0 ≤ j → j < T → ∃ p, Q (a + 9) j = some p ∧ I p 0 = w ∧ I p 1 = h
/-- a mark that is none of this place -/
def Stl (v q d j : Int) : Prop := v = -1 ∨ ∃ n : Int, j < n ∧ n ≤ 4 ∧ v = mkG (q + 1) n d j ∧ LG (kkG n d) (ssG n d) n n
/-- a coded picture that is kept, of the order q, n -/
def Kpt (Q : hQ) (I : jM) (a : Nat) (w h rc st q n d : Int) (X : Int → Int) (j : Int) : Prop := I 71 j = mkG q n d j ∧ (0 ≤ I (a + 4) j ∧ I (a + 4) j ≤ 3826) ∧ Rgt w h rc st (kkG n d) (fun i => q + ssG n d i) X (Vp Q I a) j (I (a + 4) j)
theorem Stl_n (G : LG (kkG n d) (ssG n d) n n) (q0 : 0 ≤ q) (n1 : 1 ≤ n) (k0 : 0 ≤ n - 1) {v : Int} (St : Stl v q d (n - 1)) : v ≠ mkG q n d (n - 1) := fun e => by
  unfold Stl mkG at *
  obtain ⟨a1, a2, a3, a4⟩ := LG_k G (j := n - 1) k0 (by omega)
  rcases St with h | ⟨n', h1, h2, h3, h4⟩
  · omega
  · obtain ⟨b1, b2, b3, b4⟩ := LG_k h4 (j := n - 1) k0 (by omega)
    by_cases c : n = 1
    · subst c
      have u1 := G.2.1
      have u2 := h4.2.1
      rw [show (1 : Int) - 1 = 0 from rfl] at *
      omega
    · have v1 := (G.2.2 (n - 1) (by omega) (by omega)).2
      have v2 := (h4.2.2 (n - 1) (by omega) (by omega)).2
      have w1 : (kkG n d (n - 1) = 1 ∧ n - 1 ≤ ssG n d (n - 1)) ∨ (kkG n d (n - 1) = 2 ∧ ssG n d (n - 1) = n - 1 - 1) := by
        rcases v1 with ⟨c1, c2, -⟩ | ⟨c1, c2, -⟩
        · exact Or.inl ⟨c1, c2⟩
        · exact Or.inr ⟨c1, c2⟩
      have w2 : (kkG n' d (n - 1) = 1 ∧ n - 1 ≤ ssG n' d (n - 1)) ∨ (kkG n' d (n - 1) = 2 ∧ ssG n' d (n - 1) = n - 1 - 1) := by
        rcases v2 with ⟨c1, c2, -⟩ | ⟨c1, c2, -⟩
        · exact Or.inl ⟨c1, c2⟩
        · exact Or.inr ⟨c1, c2⟩
      omega
/-- the invariant in the loop over a group's pictures -/
def PlK (s : hS) (Q : hQ) (hm : hO) (I m : jM) (a : Nat) (f w h T q n d k sum kn : Int) (X : Int → Int) : Prop := (MkP s Q hm I m a f w h T 0 ∧ Rdy Q I a w h T ∧ m 121 = X) ∧ (0 ≤ q ∧ 1 ≤ n ∧ n ≤ 4 ∧ q + n ≤ T) ∧ LG (kkG n d) (ssG n d) n n ∧ (m 76 35 = n ∧ m 76 36 = 0 ∧ m 76 83 = sum ∧ 0 ≤ sum ∧ sum ≤ 3831 * k) ∧ (∀ j : Int, 0 ≤ j → j < n → m 102 j = kkG n d j ∧ m 103 j = q + ssG n d j ∧ I (a + 1) j = kkG n d j ∧ I (a + 2) j = q + ssG n d j) ∧ (∀ j : Int, 0 ≤ j → j < k → Smp w h (Vp Q I a j) m j ∧ Kpt Q I a w h (m 82 3) (m 82 4) q n d X j) ∧ (kn = 0 ∨ (kn = 1 ∧ (∀ j : Int, k ≤ j → j < n - 1 → Kpt Q I a w h (m 82 3) (m 82 4) q (n - 1) d X j ∧ (0 ≤ kkG (n - 1) d j ∧ kkG (n - 1) d j ≤ 2 ∧ 0 ≤ ssG (n - 1) d j ∧ ssG (n - 1) d j ≤ 12)) ∧ (∀ j : Int, 0 ≤ j → j < k → kkG (n - 1) d j = kkG n d j ∧ ssG (n - 1) d j = ssG n d j) ∧ k ≤ n - 1 ∧ Stl (I 71 (n - 1)) q d (n - 1))) ∧ ∀ j : Int, n ≤ j → j < 4 → Stl (I 71 j) q d j
theorem PKm_p (Z : PlK s Q hm I m a f w h T q n d k sum kn X) (k0 : 0 ≤ k) (k1 : k < n) : ∃ p src : Nat, Q (a + 9) k = some p ∧ Q 68 (m 103 k) = some src ∧ (0 ≤ m 103 k ∧ m 103 k < T) ∧ PKm s Q hm I m a p src f w h 0 k (m 102 k) (m 82 3) (100 + m 103 k) := by
  obtain ⟨⟨⟨⟨L, F, f0, f8⟩, -, ⟨m32, m33, m34, sw, sh⟩, ⟨T1, T2, i5, q6⟩, c5, c6⟩, c8, -⟩, ⟨q0, n1, n4, qn⟩, G, ⟨m35, m36, -, -, -⟩, hj, hk, -, -⟩ := Z
  obtain ⟨u1, u2, u3, u4⟩ := hj k k0 k1
  obtain ⟨-, -, v3, v4⟩ := LG_k G k0 k1
  obtain ⟨src, h1, h2, ⟨h3, h4, -, -, h5⟩⟩ := c6 (m 103 k) (by omega) (by omega)
  obtain ⟨p, p1, p2, p3⟩ := c8 k (by omega) (by omega)
  have z0 : m 102 0 = 0 := by rw [(hj 0 (by omega) (by omega)).1]; exact G.1
  have ac : ∀ t : Nat, (t : Int) ≤ n → anc (m 102) 0 t = anc (kkG n d) 0 t := fun t ht => anc_c (fun i i0 i1 => (hj i (by omega) (by omega)).1)
  have so := (c5 3 (by decide) (by decide)).2
  refine ⟨p, src, p1, h1, ⟨by omega, by omega⟩, F, ⟨f0, f8⟩, ⟨m32, m33, m34, m36, sw, sh⟩, ⟨Int.le_refl _, k0, by omega, rfl⟩, fun j j0 j1 => ?_, fun j j0 j1 => absurd j1 (by omega), ⟨z0, fun e => ?_⟩, fun j j0 j1 => ?_, ⟨by rw [Int.zero_add]; exact p1, p2, p3⟩, ⟨h2, ⟨by omega, by omega⟩, h3, h4, by omega, by omega, fun pl j p0 p2 j0 j1 => h5 pl j p0 p2 j0 j1⟩, ⟨rfl, ?_⟩⟩
  · obtain ⟨w1, -, w3, -⟩ := hj j j0 (by omega)
    obtain ⟨w5, w6, -, -⟩ := LG_k G j0 (show j < n by omega)
    rw [Int.zero_add, w1, w3]
    exact ⟨rfl, w5, w6⟩
  · have k2 : 1 ≤ k := by
      by_cases c : k = 0
      · rw [c, z0] at e
        exact absurd e (by decide)
      · omega
    rcases (G.2.2 k k2 k1).2 with ⟨e1, -⟩ | ⟨-, -, e3, -⟩
    · omega
    · rw [ac k.toNat (by omega)]
      have ar := anc_r (K := kkG n d) (fr := 0) k.toNat
      exact anc_ge (K := m 102) (by rw [z0]; decide) (by omega)
  · obtain ⟨y, y1, y2, y3⟩ := c8 j j0 (by omega)
    have A := F.2.2.2.2 j j0 (by omega) y y1
    have := (hk j j0 j1).1
    rw [Vp_e y1] at this
    exact ⟨y, by rw [Int.zero_add]; exact y1, PcC_at A, y2, y3, j0, by omega, this⟩
  · unfold stOk at so
    rcases so with ⟨x, -⟩ | ⟨x, y⟩
    · omega
    · exact ⟨x, y⟩
end PlanI
