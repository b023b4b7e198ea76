/-! cutting: all rows, both sides -/
section CutRows
variable {s : hS} {Q : hQ} {hm : hO} {I m m' : jM} {a : Nat} {f w h T x2 : Int} {N : Nat}
/-- how many pictures the first rows show -/
def rSm (m : jM) : Nat → Int
  | 0 => 0
  | r + 1 => rSm m r + (m 133 (r : Int) - m 132 (r : Int) + 1)
theorem rSm_c (h1 : m' 132 = m 132) (h2 : m' 133 = m 133) : ∀ n : Nat, rSm m' n = rSm m n
  | 0 => rfl
  | n + 1 => by
    show rSm m' n + (m' 133 (n : Int) - m' 132 (n : Int) + 1) = rSm m n + (m 133 (n : Int) - m 132 (n : Int) + 1)
    rw [rSm_c h1 h2 n, h1, h2]
theorem rSm_le (h : ∀ r : Int, 0 ≤ r → r < (N : Int) → m 132 r ≤ m 133 r) : ∀ k t : Nat, t + k = N → rSm m t ≤ rSm m N
  | 0, t, e => by rw [show t = N by omega]; exact Int.le_refl _
  | k + 1, t, e => by
    have h1 := rSm_le h k (t + 1) (by omega)
    have h2 := h (t : Int) (by omega) (by omega)
    have e : rSm m (t + 1) = rSm m t + (m 133 (t : Int) - m 132 (t : Int) + 1) := rfl
    omega
theorem rSm_b (h : ∀ r : Int, 0 ≤ r → r < (N : Int) → 0 ≤ m 132 r ∧ m 132 r ≤ m 133 r ∧ m 133 r < 12) : ∀ t : Nat, t ≤ N → (t : Int) ≤ rSm m t ∧ rSm m t ≤ 12 * (t : Int)
  | 0, _ => ⟨by show (0 : Int) ≤ 0; decide, by show (0 : Int) ≤ 12 * 0; decide⟩
  | t + 1, ht => by
    have h1 := rSm_b h t (by omega)
    have h2 := h (t : Int) (by omega) (by omega)
    have e : rSm m (t + 1) = rSm m t + (m 133 (t : Int) - m 132 (t : Int) + 1) := rfl
    omega
/-- a row that can be cut -/
def RwC (s : hS) (Q : hQ) (hm : hO) (I m : jM) (f w h r : Int) : Prop := (I 6 (3 * r) = m 131 r ∧ I 6 (3 * r + 1) = m 132 r ∧ I 6 (3 * r + 2) = m 133 r) ∧ (0 ≤ m 131 r ∧ m 131 r < f) ∧ (0 ≤ m 132 r ∧ m 132 r ≤ m 133 r ∧ m 133 r < m 87 (m 131 r)) ∧ (m 83 (m 131 r) = 0 ∧ m 84 (m 131 r) = w ∧ m 85 (m 131 r) = h) ∧ ∃ b, Q 5 (m 131 r) = some b ∧ FilmAt s Q hm b (m 131 r) ∧ FilmC s Q I m b (m 131 r)
theorem RwC_fr {S : hS} {R : hQ} {H : hO} {J : jM} {r : Int} (L : Lay s Q hm) (f8 : f < 8) (X : CuF s Q hm I m a f S R H J m') (W : RwC s Q hm I m f w h r) : RwC S R H J m' f w h r := by
  obtain ⟨⟨w1, w2, w3⟩, ⟨f0, ff⟩, w5, w6, ⟨b, b1, b2, b3⟩⟩ := W
  have M := X.2.1.1
  have r6 := (Lay_fr (a := 6) L X.1 (by decide) (by unfold PD; omega)).2
  have r5 := (Lay_fr (a := 5) L X.1 (by decide) (by unfold PD; omega)).1
  obtain ⟨Fo, Co⟩ := old_now f0 ff f8 b2 b3 X
  unfold RwC
  rw [M 131 (by decide) (by decide) (by decide) (by decide), M 132 (by decide) (by decide) (by decide) (by decide), M 133 (by decide) (by decide) (by decide) (by decide), M 87 (by decide) (by decide) (by decide) (by decide), M 83 (by decide) (by decide) (by decide) (by decide), M 84 (by decide) (by decide) (by decide) (by decide), M 85 (by decide) (by decide) (by decide) (by decide), r6, r5]
  exact ⟨⟨w1, w2, w3⟩, ⟨f0, ff⟩, w5, w6, b, b1, Fo, Co⟩
theorem rows_l (Z : CuI s Q hm I m a f w h T 0 7) (h0 : s.1 + 11 < 1000000) (N8 : N ≤ 8) (hR : ∀ r : Int, 0 ≤ r → r < (N : Int) → RwC s Q hm I m f w h r) (hT : rSm m N = T) : ∃ (S : hS) (R : hQ) (H : hO) (J m' : jM), CuF s Q hm I m a f S R H J m' ∧ CuB S R H J m' a f w h T ∧ ((jd_166_l59 0 (some a) (N : Int) 0 (hh s Q I) = some (.inl (hh S R J)) ∧ jd_330_l217 (N : Int) x2 0 m = some (.inl m')) ∨ ∃ len' : Int, jd_166_l59 0 (some a) (N : Int) 0 (hh s Q I) = some (.inr (hh S R J)) ∧ jd_330_l217 (N : Int) x2 0 m = some (.inr m') ∧ CuI S R H J m' a f w h T T len') := by
  have f8 : f < 8 := Z.1.1.2.2.2
  have L := Z.1.1.1
  have step : ∀ (t : Nat) (u : Int × jH) (v : Int × jM), t ≤ N → (∃ (S : hS) (R : hQ) (H : hO) (J m' : jM) (len : Int), u = ((t : Int), hh S R J) ∧ v = ((t : Int), m') ∧ CuF s Q hm I m a f S R H J m' ∧ CuI S R H J m' a f w h T (rSm m t) len) → (∃ u' v', (fun u : (Int × jH) => jd_166_s59 0 (some a) (N : Int) u.1 u.2) u = some (.inl u') ∧ (fun u : (Int × jM) => jd_330_s217 (N : Int) x2 u.1 u.2) v = some (.inl v') ∧ t < N ∧ (∃ (S : hS) (R : hQ) (H : hO) (J m' : jM) (len : Int), u' = (((t + 1 : Nat) : Int), hh S R J) ∧ v' = (((t + 1 : Nat) : Int), m') ∧ CuF s Q hm I m a f S R H J m' ∧ CuI S R H J m' a f w h T (rSm m (t + 1)) len)) ∨ (∃ x y, (fun u : (Int × jH) => jd_166_s59 0 (some a) (N : Int) u.1 u.2) u = some (.inr x) ∧ (fun u : (Int × jM) => jd_330_s217 (N : Int) x2 u.1 u.2) v = some (.inr y) ∧ ∃ (S : hS) (R : hQ) (H : hO) (J m' : jM), CuF s Q hm I m a f S R H J m' ∧ CuB S R H J m' a f w h T ∧ ((x = .inl (hh S R J) ∧ y = .inl m') ∨ ∃ len : Int, x = .inr (hh S R J) ∧ y = .inr m' ∧ CuI S R H J m' a f w h T T len)) := by
    intro t u v ht Y
    obtain ⟨S, R, H, J, m', len, rfl, rfl, X, C⟩ := Y
    dsimp only
    by_cases ct : t = N
    · refine Or.inr ⟨.inr (hh S R J), .inr m', ?_, ?_, S, R, H, J, m', X, C.1, Or.inr ⟨len, rfl, rfl, ?_⟩⟩
      · unfold jd_166_s59
        rw [ct, if_pos (Int.le_refl _)]
      · unfold jd_330_s217
        rw [ct, if_pos (Int.le_refl _)]
      · rw [ct, hT] at C
        exact C
    · have tN : t < N := by omega
      have W := RwC_fr L f8 X (hR (t : Int) (by omega) (by omega))
      obtain ⟨⟨w1, w2, w3⟩, ⟨f0, ff⟩, ⟨w5, w6, w7⟩, ⟨v1, v2, v3⟩, ⟨b, b1, b2, b3⟩⟩ := W
      have M := X.2.1.1
      have L' := C.1.1.1
      have g3 := (Gm_3 X.2.2.1).1
      have e1 : rSm m (t + 1) = rSm m t + (m' 133 (t : Int) - m' 132 (t : Int) + 1) := by
        rw [M 132 (by decide) (by decide) (by decide) (by decide), M 133 (by decide) (by decide) (by decide) (by decide)]
        rfl
      have le := rSm_le (m := m) (N := N) (fun r r0 r1 => (hR r r0 r1).2.2.1.2.1) (N - (t + 1)) (t + 1) (by omega)
      rw [hT] at le
      obtain ⟨S2, R2, H2, J2, m2, y1, y2, alt⟩ := addrow (b := b) (fr := m' 132 (t : Int)) (to := m' 133 (t : Int)) C h0 X.2.2.1 f0 ff f8 b2 b3 v1 v2 v3 w5 w6 w7 (by omega)
      have ec : ∀ v : Int, jd_69 42 (some a) (some b) (m' 132 (t : Int)) (m' 133 (t : Int)) (hh S R J) = some (v, hh S2 R2 J2) → jd_166_s59 0 (some a) (N : Int) (t : Int) (hh S R J) = if jw v = 0 then some (.inr (.inl (hh S2 R2 J2))) else some (.inl ((t : Int) + 1, hh S2 R2 J2)) := fun v hv => by
        have q15 : R 0 ((15 : Nat) : Int) = some 42 := Lq L' rfl
        have q7 : R 0 ((7 : Nat) : Int) = some 5 := Lq L' rfl
        have q9 : R 0 ((9 : Nat) : Int) = some 6 := Lq L' rfl
        unfold jd_166_s59
        rw [n_jw (z := (N : Int)) (by omega) (by omega), n_jw (z := (t : Int)) (by omega) (by omega), if_neg (by omega), y_gr L' 0 11 rfl rfl, Option.bind_some, q15, y_gr L' 0 11 rfl rfl, Option.bind_some, q7, y_gr L' 0 11 rfl rfl, Option.bind_some, q9, Option.bind_some, y_ai L' (by omega) 6 24 rfl rfl rfl (by omega) (by omega), Option.bind_some, w1, Option.bind_some, y_ar L' 5 4 8 rfl rfl rfl f0 (by omega), Option.bind_some, b1, Option.bind_some, Option.bind_some, y_ai L' (by omega) 6 24 rfl rfl rfl (by omega) (by omega), Option.bind_some, w2, Option.bind_some, Option.bind_some, y_ai L' (by omega) 6 24 rfl rfl rfl (by omega) (by omega), Option.bind_some, w3, Option.bind_some, y_ck L' 42 4 rfl rfl, Option.bind_some, hv, Option.bind_some]
      have em : ∀ v : Int, jd_327 (m' 131 (t : Int)) (m' 132 (t : Int)) (m' 133 (t : Int)) m' = some (v, m2) → jd_330_s217 (N : Int) x2 (t : Int) m' = if jw v = 0 then some (.inr (.inl m2)) else some (.inl ((t : Int) + 1, m2)) := fun v hv => by
        unfold jd_330_s217
        rw [n_jw (z := (N : Int)) (by omega) (by omega), n_jw (z := (t : Int)) (by omega) (by omega), if_neg (by omega), y_ma 131 8 rfl rfl (by omega) (by omega), Option.bind_some, y_ma 132 8 rfl rfl (by omega) (by omega), Option.bind_some, y_ma 133 8 rfl rfl (by omega) (by omega), Option.bind_some, hv, Option.bind_some]
      rcases alt with ⟨a1, a2⟩ | ⟨len', a1, a2, a3⟩
      · exact Or.inr ⟨_, _, (ec 0 a1).trans (if_pos (by decide)), (em 0 a2).trans (if_pos (by decide)), S2, R2, H2, J2, m2, CuF_t X y1, y2, Or.inl ⟨rfl, rfl⟩⟩
      · refine Or.inl ⟨_, _, (ec 1 a1).trans (if_neg (by decide)), (em 1 a2).trans (if_neg (by decide)), tN, S2, R2, H2, J2, m2, len', by rw [show (t : Int) + 1 = ((t + 1 : Nat) : Int) by omega], by rw [show (t : Int) + 1 = ((t + 1 : Nat) : Int) by omega], CuF_t X y1, ?_⟩
        rw [e1]
        exact a3
  obtain ⟨x, y, e1, e2, S, R, H, J, m', r1, r2, alt⟩ := w_lp2 (f := fun u : (Int × jH) => jd_166_s59 0 (some a) (N : Int) u.1 u.2) (g := fun u : (Int × jM) => jd_330_s217 (N : Int) x2 u.1 u.2) (Q := fun x y => ∃ (S : hS) (R : hQ) (H : hO) (J m' : jM), CuF s Q hm I m a f S R H J m' ∧ CuB S R H J m' a f w h T ∧ ((x = .inl (hh S R J) ∧ y = .inl m') ∨ ∃ len : Int, x = .inr (hh S R J) ∧ y = .inr m' ∧ CuI S R H J m' a f w h T T len)) (fun t u v => ∃ (S : hS) (R : hQ) (H : hO) (J m' : jM) (len : Int), u = ((t : Int), hh S R J) ∧ v = ((t : Int), m') ∧ CuF s Q hm I m a f S R H J m' ∧ CuI S R H J m' a f w h T (rSm m t) len) N step (n_fu (by omega)) (n_fu (by omega)) (s0 := (0, hh s Q I)) (t0 := (0, m)) ⟨s, Q, hm, I, m, 7, rfl, rfl, CuF_0, Z⟩
  refine ⟨S, R, H, J, m', r1, r2, ?_⟩
  unfold jd_166_l59 jd_330_l217
  rw [e1, e2]
  rcases alt with ⟨z1, z2⟩ | ⟨len, z1, z2, z3⟩
  · exact Or.inl ⟨by rw [z1], by rw [z2]⟩
  · exact Or.inr ⟨len, by rw [z1], by rw [z2], z3⟩
/-- rows of one size -/
def RwQ (m : jM) (n : Int) : Prop := ∀ i : Int, 0 ≤ i → i < n → m 84 (m 131 i) = m 84 (m 131 0) ∧ m 85 (m 131 i) = m 85 (m 131 0)
/-- a row as the relation tells it -/
def RwR (s : hS) (Q : hQ) (hm : hO) (I m : jM) (f r : Int) : Prop := (I 6 (3 * r) = m 131 r ∧ I 6 (3 * r + 1) = m 132 r ∧ I 6 (3 * r + 2) = m 133 r) ∧ (0 ≤ m 131 r ∧ m 131 r < f) ∧ (0 ≤ m 132 r ∧ m 132 r ≤ m 133 r ∧ m 133 r < 12) ∧ ∃ b, Q 5 (m 131 r) = some b ∧ FilmAt s Q hm b (m 131 r) ∧ I b 1 = m 84 (m 131 r) ∧ I b 2 = m 85 (m 131 r) ∧ isSd (m 84 (m 131 r)) ∧ isSd (m 85 (m 131 r))
theorem c_198 (L : Lay s Q hm) (h6 : s.1 ≤ 1000000) (N8 : N ≤ 8) (hR : ∀ r : Int, 0 ≤ r → r < (N : Int) → I 6 (3 * r + 1) = m 132 r ∧ I 6 (3 * r + 2) = m 133 r) : jd_198 0 (N : Int) (hh s Q I) = some (rSm m N) := by
  have q9 : Q 0 ((9 : Nat) : Int) = some 6 := Lq L rfl
  unfold jd_198 jd_198_l4
  have := w_for (f := fun u : (Int × Int) => jd_198_s4 0 (N : Int) u.1 u.2 (hh s Q I)) (fun k => (rSm m k, (k : Int))) N (x := rSm m N) (fun k hk => by
    dsimp only
    obtain ⟨w2, w3⟩ := hR (k : Int) (by omega) (by omega)
    unfold jd_198_s4
    rw [n_jw (z := (N : Int)) (by omega) (by omega), n_jw (z := (k : Int)) (by omega) (by omega), if_neg (by omega), y_gr L 0 11 rfl rfl, Option.bind_some, q9, Option.bind_some, y_ai L h6 6 24 rfl rfl rfl (by omega) (by omega), Option.bind_some, w3, Option.bind_some, Option.bind_some, y_ai L h6 6 24 rfl rfl rfl (by omega) (by omega), Option.bind_some, w2, show ((k + 1 : Nat) : Int) = (k : Int) + 1 by omega]
    rfl) (by
    dsimp only
    unfold jd_198_s4
    rw [if_pos (Int.le_refl _)]) (n_fu (by omega))
  exact (congrArg (fun o : Option Int => o.bind fun x => some x) this).trans rfl
end CutRows
