/-! which pictures one may begin with, in the class -/
section Keys
variable {s : hS} {Q : hQ} {hm : hO} {I : jM} {a : Nat} {f T : Int} {W0 : Int → Int}
theorem c_36i (F : FilmAt s Q hm a f) (h6 : s.1 ≤ 1000000) (hT : I a 4 = T) (t1 : 1 ≤ T) (t2 : T ≤ 12) (hP : ∀ j : Int, 0 ≤ j → j < T → 0 ≤ I (a + 2) j ∧ I (a + 2) j < 12) (k : Nat) (hk : (k : Int) < T) (w0 : W0 k = 0 ∨ W0 k = 1) : ∃ W : Int → Int, jd_36_l34 a (k : Int) ((k : Int) + 1) (hh s Q (ims I (a + 7) W0)) = some (hh s Q (ims I (a + 7) W)) ∧ (∀ j : Int, j ≠ k → W j = W0 j) ∧ (W k = 0 ∨ W k = 1) ∧ (W k = 1 ↔ W0 k = 1 ∧ ∀ j : Int, k < j → j < T → I (a + 2) k < I (a + 2) j) := by
  have e13 : Q a ((13 : Nat) : Int) = some (a + 7) := F_q F 6 13 rfl rfl
  have e8 : Q a ((8 : Nat) : Int) = some (a + 2) := F_q F 1 8 rfl rfl
  have i4 : ∀ W, ims I (a + 7) W a ((4 : Nat) : Int) = T := fun W => by rw [ims_o (by omega)]; exact hT
  have i2 : ∀ W, ims I (a + 7) W (a + 2) = I (a + 2) := fun W => ims_o (by omega)
  have key : wT (jd_36_l34 a (k : Int) ((k : Int) + 1) (hh s Q (ims I (a + 7) W0))) (fun u => ∃ W : Int → Int, u = hh s Q (ims I (a + 7) W) ∧ (∀ j : Int, j ≠ k → W j = W0 j) ∧ (W k = 0 ∨ W k = 1) ∧ (W k = 1 ↔ W0 k = 1 ∧ ∀ j : Int, k < j → j < T → I (a + 2) k < I (a + 2) j)) := by
    unfold jd_36_l34
    refine w_lp (f := fun u : (Int × jH) => jd_36_s34 a (k : Int) u.1 u.2) (fun i u => u.1 = (k : Int) + 1 + (i : Int) ∧ u.1 ≤ T ∧ ∃ W : Int → Int, u.2 = hh s Q (ims I (a + 7) W) ∧ (∀ j : Int, j ≠ k → W j = W0 j) ∧ (W k = 0 ∨ W k = 1) ∧ (W k = 1 ↔ W0 k = 1 ∧ ∀ j : Int, k < j → j < (k : Int) + 1 + (i : Int) → I (a + 2) k < I (a + 2) j)) 12 (fun i u hi hI => ?_) (n_fu (by decide)) ⟨by dsimp only; omega, by dsimp only; omega, W0, rfl, fun _ _ => rfl, w0, fun h => ⟨h, fun j j0 j1 => absurd j1 (by omega)⟩, fun h => h.1⟩
    obtain ⟨u1, u2⟩ := u
    obtain ⟨q1, q2, W, q3, q4, q5, q6⟩ := hI
    dsimp only at q1 q2 q3 ⊢
    subst q3
    unfold jd_36_s34 jd_36_b76
    rw [F_gi F, Option.bind_some, i4, n_jw (z := T) (by omega) (by omega), n_jw (z := u1) (by omega) (by omega)]
    by_cases c : T ≤ u1
    · rw [if_pos c]
      refine ⟨_, rfl, W, rfl, q4, q5, ?_⟩
      rw [show (k : Int) + 1 + (i : Int) = T by omega] at q6
      exact q6
    · have p1 := hP u1 (by omega) (by omega)
      have pk := hP k (by omega) hk
      rw [if_neg c, F_gr F, Option.bind_some, e13, Option.bind_some, Option.bind_some, F_az F 7 12 rfl rfl rfl (by omega) (by omega), Option.bind_some, ims_e, n_jw (z := W k % 2) (by omega) (by omega)]
      by_cases c2 : W k % 2 = 0
      · rw [if_pos c2, Option.bind_some, F_ta F 7 2 12 rfl rfl rfl (by omega) (by omega), Option.bind_some, ims_jms]
        refine ⟨_, rfl, by omega, by dsimp only; omega, by dsimp only; omega, _, rfl, fun j hj => (if_neg hj).trans (q4 j hj), Or.inl (if_pos rfl), ?_⟩
        have e0 : jiu W (k : Int) 0 k = 0 := if_pos rfl
        rw [e0]
        refine ⟨fun h => absurd h (by decide), fun h => ?_⟩
        have := q6.mpr ⟨h.1, fun j j0 j1 => h.2 j j0 (by omega)⟩
        omega
      · rw [if_neg c2, F_gr F, Option.bind_some, e8, Option.bind_some, F_ai F h6 2 12 rfl rfl rfl (by omega) (by omega), Option.bind_some, Option.bind_some, Option.bind_some, F_ai F h6 2 12 rfl rfl rfl (by omega) (by omega), Option.bind_some, i2, n_jw (z := I (a + 2) u1) (by omega) (by omega), n_jw (z := I (a + 2) (k : Int)) (by omega) (by omega), Option.bind_some, F_ta F 7 2 12 rfl rfl rfl (by omega) (by omega), Option.bind_some, ims_jms]
        have w1 := q6.mp (by omega)
        refine ⟨_, rfl, by omega, by dsimp only; omega, by dsimp only; omega, _, rfl, fun j hj => (if_neg hj).trans (q4 j hj), ?_, ?_⟩
        · have e0 : ∀ v : Int, jiu W (k : Int) v k = v := fun v => if_pos rfl
          rw [e0]
          split <;> omega
        · have e0 : ∀ v : Int, jiu W (k : Int) v k = v := fun v => if_pos rfl
          rw [e0]
          constructor
          · intro h
            refine ⟨w1.1, fun j j0 j1 => ?_⟩
            by_cases ej : j = u1
            · rw [ej]
              by_cases cc : I (a + 2) u1 ≤ I (a + 2) (k : Int)
              · rw [if_pos cc] at h
                omega
              · omega
            · exact w1.2 j j0 (by omega)
          · intro h
            have := h.2 u1 (by omega) (by omega)
            rw [if_neg (by omega)]
  obtain ⟨u, k1, W, k2, k3⟩ := key
  subst k2
  exact ⟨W, k1, k3⟩
end Keys
