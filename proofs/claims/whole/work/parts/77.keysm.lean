/-! which pictures one may begin with, in the model -/
section KeysM
variable {m : jM} {f T z : Int}
theorem k_308k (hT : m 76 35 = T) (t1 : 1 ≤ T) (t2 : T ≤ 12) (hP : ∀ j : Int, 0 ≤ j → j < T → 0 ≤ m 103 j ∧ m 103 j < 12) (k : Nat) (hk : (k : Int) < T) (z0 : 0 ≤ z ∧ z < 96) (w0 : m 95 z = 0 ∨ m 95 z = 1) : ∃ v, jd_308_l240 f (k : Int) z ((k : Int) + 1) m = some (jms m 95 z v) ∧ (v = 0 ∨ v = 1) ∧ (v = 1 ↔ m 95 z = 1 ∧ ∀ j : Int, k < j → j < T → m 103 k < m 103 j) := by
  have i35 : ∀ v, jms m 95 z v 76 35 = T := fun v => hT
  have i103 : ∀ v, jms m 95 z v 103 = m 103 := fun v => rfl
  have key : wT (jd_308_l240 f (k : Int) z ((k : Int) + 1) m) (fun u => ∃ v, u = jms m 95 z v ∧ (v = 0 ∨ v = 1) ∧ (v = 1 ↔ m 95 z = 1 ∧ ∀ j : Int, k < j → j < T → m 103 k < m 103 j)) := by
    unfold jd_308_l240
    refine w_lp (f := fun u : (Int × jM) => jd_308_s240 f (k : Int) z u.1 u.2) (fun i u => u.1 = (k : Int) + 1 + (i : Int) ∧ u.1 ≤ T ∧ ∃ v, u.2 = jms m 95 z v ∧ (v = 0 ∨ v = 1) ∧ (v = 1 ↔ m 95 z = 1 ∧ ∀ j : Int, k < j → j < (k : Int) + 1 + (i : Int) → m 103 k < m 103 j)) 12 (fun i u hi hI => ?_) (n_fu (by decide)) ⟨by dsimp only; omega, by dsimp only; omega, m 95 z, jms_self.symm, w0, fun h => ⟨h, fun j j0 j1 => absurd j1 (by omega)⟩, fun h => h.1⟩
    obtain ⟨u1, u2⟩ := u
    obtain ⟨q1, q2, v, q3, q5, q6⟩ := hI
    dsimp only at q1 q2 q3 ⊢
    subst q3
    unfold jd_308_s240 jd_308_b284
    rw [i35, n_jw (z := T) (by omega) (by omega), n_jw (z := u1) (by omega) (by omega)]
    by_cases c : T ≤ u1
    · rw [if_pos c]
      refine ⟨_, rfl, v, rfl, q5, ?_⟩
      rw [show (k : Int) + 1 + (i : Int) = T by omega] at q6
      exact q6
    · have p1 := hP u1 (by omega) (by omega)
      have pk := hP k (by omega) hk
      rw [if_neg c, y_mz 95 96 rfl rfl z0.1 (by omega), Option.bind_some, jms_e, n_jw (z := v % 2) (by omega) (by omega)]
      by_cases c2 : v % 2 = 0
      · rw [if_pos c2, y_mw 95 96 rfl rfl z0.1 (by omega), Option.bind_some, jms_jms]
        refine ⟨_, rfl, by omega, by dsimp only; omega, by dsimp only; omega, 0, rfl, Or.inl rfl, fun h => absurd h (by decide), fun h => ?_⟩
        have := q6.mpr ⟨h.1, fun j j0 j1 => h.2 j j0 (by omega)⟩
        omega
      · rw [if_neg c2, y_ma 103 12 rfl rfl (by omega) (by omega), Option.bind_some, y_ma 103 12 rfl rfl (by omega) (by omega), Option.bind_some, i103, n_jw (z := m 103 u1) (by omega) (by omega), n_jw (z := m 103 (k : Int)) (by omega) (by omega), y_mw 95 96 rfl rfl z0.1 (by omega), Option.bind_some, jms_jms]
        have w1 := q6.mp (by omega)
        refine ⟨_, rfl, by omega, by dsimp only; omega, by dsimp only; omega, _, rfl, ?_, ?_⟩
        · split <;> omega
        · constructor
          · intro h
            refine ⟨w1.1, fun j j0 j1 => ?_⟩
            by_cases ej : j = u1
            · rw [ej]
              by_cases cc : m 103 u1 ≤ m 103 (k : Int)
              · rw [if_pos cc] at h
                omega
              · omega
            · exact w1.2 j j0 (by omega)
          · intro h
            have := h.2 u1 (by omega) (by omega)
            rw [if_neg (by omega)]
  obtain ⟨u, k1, v, k2, k3⟩ := key
  subst k2
  exact ⟨v, k1, k3⟩
end KeysM
