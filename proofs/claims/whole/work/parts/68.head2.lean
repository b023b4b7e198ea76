/-! one head: the model's end of it, and both -/
section Head2
variable {s : hS} {Q : hQ} {hm : hO} {I m : jM} {a b n : Nat} {f T cod p S len : Int}
theorem k_307b (hn : m 76 35 = n) (hn' : n < 12) (hl : m 76 47 = len) (l0 : 0 ≤ len) (l1 : len ≤ 24090) (p0 : 0 ≤ p) (p1 : p + 2 < len) : ∃ r m', jd_307_b103 p S m = some (r, m') ∧ (∀ c, c ≠ 104 → c ≠ 105 → m' c = m c) ∧ ((p + 3 < len ∧ m 112 (p + 3) % 256 ≤ 7 ∧ p + 3 + 1 < len ∧ 256 * (m 112 (p + 3) % 256) + m 112 (p + 3 + 1) % 256 ≤ 2000 ∧ p + 3 + 2 + (256 * (m 112 (p + 3) % 256) + m 112 (p + 3 + 1) % 256) ≤ len ∧ r = -1 ∧ m' = jms (jms m 104 n S) 105 n (256 * (m 112 (p + 3) % 256) + m 112 (p + 3 + 1) % 256)) ∨ ((¬ p + 3 < len ∨ ¬ m 112 (p + 3) % 256 ≤ 7) ∧ r = p + 3) ∨ ((p + 3 < len ∧ m 112 (p + 3) % 256 ≤ 7) ∧ ¬ p + 3 + 1 < len ∧ r = p + 3 + 1) ∨ ((p + 3 < len ∧ m 112 (p + 3) % 256 ≤ 7) ∧ p + 3 + 1 < len ∧ ¬ 256 * (m 112 (p + 3) % 256) + m 112 (p + 3 + 1) % 256 ≤ 2000 ∧ r = p + 3) ∨ ((p + 3 < len ∧ m 112 (p + 3) % 256 ≤ 7) ∧ p + 3 + 1 < len ∧ 256 * (m 112 (p + 3) % 256) + m 112 (p + 3 + 1) % 256 ≤ 2000 ∧ ¬ p + 3 + 2 + (256 * (m 112 (p + 3) % 256) + m 112 (p + 3 + 1) % 256) ≤ len ∧ r = len)) := by
  have e302 : ∀ q, 0 ≤ q → q < 24100 → jd_302 q (jms m 104 n S) = some (if len ≤ q then -1 else m 112 q % 256) := fun q q0 q1 => k_302 (m := jms m 104 n S) q0 q1 hl l0 (by omega)
  have q35 : jms m 104 (n : Int) S 76 35 = n := hn
  unfold jd_307_b103 jd_307_b136 jd_307_b224
  rw [hn, y_mw 104 12 rfl rfl (by omega) (by omega), Option.bind_some, e302 (p + 3) (by omega) (by omega), Option.bind_some]
  by_cases c1 : p + 3 < len
  · rw [if_neg (show ¬ len ≤ p + 3 by omega), n_jw (z := m 112 (p + 3) % 256) (by omega) (by omega), if_neg (by omega)]
    by_cases c2 : m 112 (p + 3) % 256 ≤ 7
    · rw [if_pos c2, e302 (p + 4) (by omega) (by omega), Option.bind_some]
      by_cases c3 : p + 3 + 1 < len
      · rw [if_neg (show ¬ len ≤ p + 4 by omega), n_jw (z := m 112 (p + 4) % 256) (by omega) (by omega), if_neg (by omega), q35, y_mw 105 12 rfl rfl (by omega) (by omega), Option.bind_some, show p + 4 = p + 3 + 1 by omega]
        generalize hZ : 256 * (m 112 (p + 3) % 256) + m 112 (p + 3 + 1) % 256 = Z at *
        have z35 : jms (jms m 104 (n : Int) S) 105 (n : Int) Z 76 35 = n := hn
        have z47 : jms (jms m 104 (n : Int) S) 105 (n : Int) Z 76 47 = len := hl
        have zz : jms (jms m 104 (n : Int) S) 105 (n : Int) Z 105 (n : Int) = Z := jms_e
        rw [z35, z47, y_ma 105 12 rfl rfl (by omega) (by omega), Option.bind_some, zz, n_jw (z := Z) (by omega) (by omega)]
        by_cases c4 : Z ≤ 2000
        · rw [if_pos c4, Option.bind_some, n_jw (z := len) (by omega) (by omega), n_jw (z := p + 5 + Z) (by omega) (by omega)]
          by_cases c5 : p + 3 + 2 + Z ≤ len
          · rw [if_pos (show p + 5 + Z ≤ len by omega)]
            exact ⟨_, _, rfl, fun c h1 h2 => (jms_o h2).trans (jms_o h1), Or.inl ⟨c1, c2, c3, c4, c5, rfl, rfl⟩⟩
          · rw [if_neg (show ¬ p + 5 + Z ≤ len by omega)]
            exact ⟨_, _, rfl, fun c h1 h2 => (jms_o h2).trans (jms_o h1), Or.inr (Or.inr (Or.inr (Or.inr ⟨⟨c1, c2⟩, c3, c4, c5, rfl⟩)))⟩
        · rw [if_neg c4]
          exact ⟨_, _, rfl, fun c h1 h2 => (jms_o h2).trans (jms_o h1), Or.inr (Or.inr (Or.inr (Or.inl ⟨⟨c1, c2⟩, c3, c4, rfl⟩)))⟩
      · rw [if_pos (show len ≤ p + 4 by omega), if_pos (by decide)]
        exact ⟨_, _, rfl, fun c h1 h2 => jms_o h1, Or.inr (Or.inr (Or.inl ⟨⟨c1, c2⟩, c3, by omega⟩))⟩
    · rw [if_neg c2]
      exact ⟨_, _, rfl, fun c h1 h2 => jms_o h1, Or.inr (Or.inl ⟨Or.inr c2, rfl⟩)⟩
  · rw [if_pos (show len ≤ p + 3 by omega), if_pos (by decide)]
    exact ⟨_, _, rfl, fun c h1 h2 => jms_o h1, Or.inr (Or.inl ⟨Or.inl c1, rfl⟩)⟩
/-- from the place's byte on, in the class: step, size -/
theorem c_31t (F : FilmAt s Q hm a f) (h6 : s.1 ≤ 1000000) (Y : BySm s Q I m a b len) (hb : ∀ j : Nat, j < 13 → b ≠ a + j) (hn : n < 12) (p0 : 0 ≤ p) (p2 : p + 2 < len) : ∃ r I', jd_31_b165 a (n : Int) p (hh s Q (jms I (a + 3) n S)) = some (r, hh s Q I') ∧ (∀ c, c ≠ a + 3 → c ≠ a + 4 → I' c = I c) ∧ ((p + 3 < len ∧ m 112 (p + 3) % 256 ≤ 7 ∧ p + 3 + 1 < len ∧ 256 * (m 112 (p + 3) % 256) + m 112 (p + 3 + 1) % 256 ≤ 2000 ∧ p + 3 + 2 + (256 * (m 112 (p + 3) % 256) + m 112 (p + 3 + 1) % 256) ≤ len ∧ r = -1 ∧ I' = jms (jms I (a + 3) n S) (a + 4) n (256 * (m 112 (p + 3) % 256) + m 112 (p + 3 + 1) % 256)) ∨ ((¬ p + 3 < len ∨ ¬ m 112 (p + 3) % 256 ≤ 7) ∧ r = p + 3) ∨ ((p + 3 < len ∧ m 112 (p + 3) % 256 ≤ 7) ∧ ¬ p + 3 + 1 < len ∧ r = p + 3 + 1) ∨ ((p + 3 < len ∧ m 112 (p + 3) % 256 ≤ 7) ∧ p + 3 + 1 < len ∧ ¬ 256 * (m 112 (p + 3) % 256) + m 112 (p + 3 + 1) % 256 ≤ 2000 ∧ r = p + 3) ∨ ((p + 3 < len ∧ m 112 (p + 3) % 256 ≤ 7) ∧ p + 3 + 1 < len ∧ 256 * (m 112 (p + 3) % 256) + m 112 (p + 3 + 1) % 256 ≤ 2000 ∧ ¬ p + 3 + 2 + (256 * (m 112 (p + 3) % 256) + m 112 (p + 3 + 1) % 256) ≤ len ∧ r = len)) := by
  have Y2 : BySm s Q (jms I (a + 3) n S) m a b len := BySm_J Y (jms_o (hb 3 (by decide))) (jms_o (by omega))
  obtain ⟨r, I', e1, e2, e3⟩ := c_32 (n := n) (q := p + 3) F h6 Y2 hn (by omega) (by omega)
  refine ⟨r, I', ?_, fun c h1 h2 => (e2 c h2).trans (jms_o h1), e3⟩
  unfold jd_31_b165
  rw [F_ck F, Option.bind_some, e1, Option.bind_some]
end Head2
