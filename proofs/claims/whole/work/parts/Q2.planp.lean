/-! planning: one place, both sides -/
section PlanP
variable {s s' : hS} {Q Q' : hQ} {hm hm' : hO} {I I' m m' : jM} {a : Nat} {f w h T q n d : Int} {X : Int → Int}
theorem PlE_0 (L : Lay s Q hm) (F : FilmAt s Q hm a f) : PlE s Q hm I m a f s Q hm I m := ⟨⟨L, F⟩, Sm_refl, ⟨fun _ _ _ _ _ _ => rfl, fun _ _ => rfl⟩, Gw_refl⟩
theorem pl_l {N : Nat} (hN : (N : Int) = if T - q ≤ 4 then T - q else 4) (Z : PlQ s Q hm I m a f w h T q 1 d X) (q0 : 0 ≤ q) (qT : q < T) (h6 : s.1 + 14 < 1000000) : ∃ (S : hS) (R : hQ) (H : hO) (J m' : jM), jd_62_l78 42 (some a) q 1 (hh s Q I) = some (hh S R J) ∧ jd_299_l30 q 1 m = some m' ∧ PlE s Q hm I m a f S R H J m' ∧ PlQ S R H J m' a f w h T q ((N : Int) + 1) d X := by
  obtain ⟨⟨L, F, -, -⟩, -, -, ⟨T1, T2, i5, -⟩, -, -⟩ := id Z.1.1.1
  have Nb : 1 ≤ (N : Int) ∧ (N : Int) ≤ 4 ∧ q + (N : Int) ≤ T ∧ ((N : Int) = 4 ∨ q + (N : Int) = T) := by
    by_cases c : T - q ≤ 4
    · rw [if_pos c] at hN; omega
    · rw [if_neg c] at hN; omega
  have step : ∀ (t : Nat) (u : Int × jH) (v : Int × jM), t ≤ N → (∃ (S : hS) (R : hQ) (H : hO) (J m' : jM), u = ((t : Int) + 1, hh S R J) ∧ v = ((t : Int) + 1, m') ∧ PlE s Q hm I m a f S R H J m' ∧ PlQ S R H J m' a f w h T q ((t : Int) + 1) d X) → (∃ u' v', (fun u : (Int × jH) => jd_62_s78 42 (some a) q u.1 u.2) u = some (.inl u') ∧ (fun u : (Int × jM) => jd_299_s30 q u.1 u.2) v = some (.inl v') ∧ t < N ∧ (∃ (S : hS) (R : hQ) (H : hO) (J m' : jM), u' = (((t + 1 : Nat) : Int) + 1, hh S R J) ∧ v' = (((t + 1 : Nat) : Int) + 1, m') ∧ PlE s Q hm I m a f S R H J m' ∧ PlQ S R H J m' a f w h T q (((t + 1 : Nat) : Int) + 1) d X)) ∨ (∃ x y, (fun u : (Int × jH) => jd_62_s78 42 (some a) q u.1 u.2) u = some (.inr x) ∧ (fun u : (Int × jM) => jd_299_s30 q u.1 u.2) v = some (.inr y) ∧ ∃ (S : hS) (R : hQ) (H : hO) (J : jM), x = hh S R J ∧ PlE s Q hm I m a f S R H J y ∧ PlQ S R H J y a f w h T q ((N : Int) + 1) d X) := by
    intro t u v ht Y
    obtain ⟨S, R, H, J, m', rfl, rfl, E, P⟩ := Y
    dsimp only
    obtain ⟨⟨L', -, -, -⟩, -, -, ⟨-, -, i5', -⟩, -, -⟩ := id P.1.1.1
    have h7 := P.2.2.2.1
    have j5 : J 42 ((5 : Nat) : Int) = T := i5'
    by_cases c : t = N
    · rw [c]
      rw [c] at P
      refine Or.inr ⟨hh S R J, m', ?_, ?_, S, R, H, J, rfl, E, P⟩
      · unfold jd_62_s78
        rw [n_jw (z := (N : Int) + 1) (by omega) (by omega)]
        by_cases c4 : 4 < (N : Int) + 1
        · rw [if_pos c4]
        · rw [if_neg c4, y_gi L' 42 4 rfl rfl, Option.bind_some, j5, n_jw (z := T) (by omega) (by omega), n_jw (z := q + ((N : Int) + 1)) (by omega) (by omega), if_pos (by omega)]
      · unfold jd_299_s30
        rw [n_jw (z := (N : Int) + 1) (by omega) (by omega)]
        by_cases c4 : 4 < (N : Int) + 1
        · rw [if_pos c4]
        · rw [if_neg c4, h7, n_jw (z := T) (by omega) (by omega), n_jw (z := q + ((N : Int) + 1)) (by omega) (by omega), if_pos (by omega)]
    · have g6 : S.1 + 12 < 1000000 := by
        have := E.2.2.2.2.1
        have := nW_le (Q := R)
        omega
      obtain ⟨S2, R2, H2, J2, m2, d1, d2, E2, P2⟩ := pl_t P q0 (by omega) (by omega) (by omega) g6
      rw [show (t : Int) + 1 + 1 = ((t + 1 : Nat) : Int) + 1 by omega] at d1 d2 P2
      exact Or.inl ⟨_, _, d1, d2, by omega, S2, R2, H2, J2, m2, rfl, rfl, PlE_t E E2, P2⟩
  unfold jd_62_l78 jd_299_l30
  obtain ⟨x, y, l1, l2, S, R, H, J, hx, E, P⟩ := w_lp2 (f := fun u : (Int × jH) => jd_62_s78 42 (some a) q u.1 u.2) (g := fun u : (Int × jM) => jd_299_s30 q u.1 u.2) (Q := fun x y => ∃ (S : hS) (R : hQ) (H : hO) (J : jM), x = hh S R J ∧ PlE s Q hm I m a f S R H J y ∧ PlQ S R H J y a f w h T q ((N : Int) + 1) d X) (fun t u v => ∃ (S : hS) (R : hQ) (H : hO) (J m' : jM), u = ((t : Int) + 1, hh S R J) ∧ v = ((t : Int) + 1, m') ∧ PlE s Q hm I m a f S R H J m' ∧ PlQ S R H J m' a f w h T q ((t : Int) + 1) d X) N step (n_fu (by omega)) (n_fu (by omega)) (s0 := (1, hh s Q I)) (t0 := (1, m)) ⟨s, Q, hm, I, m, rfl, rfl, PlE_0 L F, Z⟩
  exact ⟨S, R, H, J, y, by rw [l1, hx], l2, E, P⟩
/-- the places from q on are planned -/
def PlR (s : hS) (Q : hQ) (hm : hO) (I m : jM) (a : Nat) (f w h T q d : Int) (X : Int → Int) : Prop := (MkP s Q hm I m a f w h T 0 ∧ Rdy Q I a w h T ∧ m 121 = X) ∧ (∀ j : Int, 0 ≤ j → j < 4 → Stl (I 71 j) (q - 1) d j) ∧ (∀ p : Int, q ≤ p → p ≤ T → I 70 p = m 129 p ∧ 0 ≤ m 129 p ∧ m 129 p ≤ 3831 * (T - p)) ∧ (∀ p : Int, q ≤ p → p < T → I 69 p = m 130 p ∧ 1 ≤ m 130 p ∧ p + m 130 p ≤ T) ∧ (m 82 2 = d ∧ m 76 7 = T) ∧ ∀ j : Int, T - q ≤ j → j < 4 → I 71 j = -1
theorem pl_p (Z : PlR s Q hm I m a f w h T (q + 1) d X) (q0 : 0 ≤ q) (qT : q < T) (h6 : s.1 + 14 < 1000000) : ∃ (S : hS) (R : hQ) (H : hO) (J m' : jM), jd_62_s64 42 (some a) q (hh s Q I) = some (.inl (q + -1, hh S R J)) ∧ jd_299_s17 q m = some (.inl (q + -1, m')) ∧ PlE s Q hm I m a f S R H J m' ∧ PlR S R H J m' a f w h T q d X := by
  obtain ⟨C, st, r1, r3, ⟨hd, h7⟩, r71⟩ := Z
  obtain ⟨⟨L, F, f0, f8⟩, -, -, ⟨T1, T2, i5, -⟩, c5, -⟩ := id C.1
  have so2 : 0 ≤ m 82 2 ∧ m 82 2 ≤ 2 := by
    rcases (c5 2 (by decide) (by decide)).2 with ⟨e, -⟩ | e
    · exact absurd e (by decide)
    · exact e
  have eI : ∀ x : Nat, x ≠ 69 → x ≠ 70 → jms I 70 q 2147483647 x = I x := fun x _ x2 => jms_o x2
  have eM : ∀ c : Nat, c ≠ 129 → c ≠ 130 → jms m 129 q (-1) c = m c := fun c c1 _ => jms_o c1
  have Z0 : PlN s Q hm I m a f w h T q 1 d X := ⟨C, fun j j0 j1 => absurd j1 (by omega), fun j j0 j1 => by
    have := st j (by omega) j1
    rw [show q + 1 - 1 = q by omega] at this
    exact this⟩
  have Z1 : PlQ s Q hm (jms I 70 q 2147483647) (jms m 129 q (-1)) a f w h T q 1 d X := by
    refine ⟨PlN_w Z0 (by omega) eI eM, ⟨fun p p0 p1 => ?_, Or.inl ⟨rfl, jms_e, jms_e⟩, fun p p0 p1 => ?_⟩, by rw [eM 82 (by decide) (by decide)]; exact hd, by rw [eM 76 (by decide) (by decide)]; exact h7, fun j j0 j1 => by rw [eI 71 (by decide) (by decide)]; exact r71 j (by omega) j1⟩
    · have f1 : jms I 70 q 2147483647 70 p = I 70 p := jms_i (by omega)
      have f2 : jms m 129 q (-1) 129 p = m 129 p := jms_i (by omega)
      rw [f1, f2]
      exact r1 p (by omega) p1
    · rw [jms_o (by decide), jms_o (by decide)]
      exact r3 p (by omega) p1
  obtain ⟨N, hN⟩ : ∃ N : Nat, (N : Int) = if T - q ≤ 4 then T - q else 4 := by
    by_cases c : T - q ≤ 4
    · rw [if_pos c]; exact ⟨(T - q).toNat, by omega⟩
    · rw [if_neg c]; exact ⟨4, rfl⟩
  have Nb : 1 ≤ (N : Int) ∧ (N : Int) ≤ 4 ∧ q + (N : Int) ≤ T ∧ ((N : Int) = 4 ∨ q + (N : Int) = T) := by
    by_cases c : T - q ≤ 4
    · rw [if_pos c] at hN; omega
    · rw [if_neg c] at hN; omega
  obtain ⟨S, R, H, J, m', l1, l2, E, ⟨⟨D, kp, -⟩, ⟨n1, n2, n3⟩, hd', h7', s71⟩⟩ := pl_l hN Z1 q0 qT h6
  refine ⟨S, R, H, J, m', ?_, ?_, PlE_t (PlE_w L F eI eM) E, D, fun j j0 j1 => ?_, fun p p0 p1 => ?_, fun p p0 p1 => ?_, ⟨hd', h7'⟩, s71⟩
  · have t8 : Q 42 ((8 : Nat) : Int) = some 70 := Lq L rfl
    unfold jd_62_s64
    rw [n_jw (z := q) (by omega) (by omega), if_neg (by omega), y_gr L 42 4 rfl rfl, Option.bind_some, t8, Option.bind_some, y_ta L 70 0 13 rfl rfl rfl q0 (by omega), Option.bind_some, l1, Option.bind_some]
  · unfold jd_299_s17
    rw [n_jw (z := q) (by omega) (by omega), if_neg (by omega), y_mw 129 13 rfl rfl q0 (by omega), Option.bind_some, l2, Option.bind_some]
  · by_cases c : j < (N : Int)
    · obtain ⟨-, -, LGk, -⟩ := lay_c (I := I) (p := 0) (g := 0) (n := (N : Int)) (d := d) F (Int.le_refl _) (by omega) (by omega) (by omega) (by omega)
      have := (kp j j0 (by omega)).1
      rw [show (N : Int) + 1 - 1 = (N : Int) by omega] at this
      exact Or.inr ⟨(N : Int), c, by omega, by rw [show q - 1 + 1 = q by omega]; exact this, LGk⟩
    · exact Or.inl (s71 j (by omega) j1)
  · by_cases c : p = q
    · rw [c]
      rcases n2 with e | ⟨-, e1, e2, -⟩
      · omega
      · exact ⟨e1, e2⟩
    · exact n1 p (by omega) p1
  · by_cases c : p = q
    · rw [c]
      rcases n2 with e | ⟨-, -, -, e3⟩
      · omega
      · exact e3
    · exact n3 p (by omega) p1
end PlanP
