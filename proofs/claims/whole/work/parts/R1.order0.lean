/-! making: the order of a group without pictures between anchors -/
section Order0
variable {n : Int}
def Z0 (n : Int) (t : Nat) (M : jM) : Prop := M 76 32 = 0 ∧ M 82 = mzG 0 82 ∧ M 76 35 = (t : Int) ∧ ∀ j : Int, 0 ≤ j → j < (t : Int) → M 102 j = (if j = 0 then 0 else 1) ∧ M 103 j = j
theorem kk0 (n0 : 1 ≤ n) (n1 : n ≤ 12) {j : Int} (j0 : 0 ≤ j) (j1 : j < n) : kkG n 0 j = (if j = 0 then 0 else 1) ∧ ssG n 0 j = j := by
  have z32 : mzG 0 76 32 = 0 := by unfold mzG; rw [jms_o (by decide)]
  have z82 : mzG 0 82 2 = 0 := by unfold mzG; rw [jms_e]
  obtain ⟨m0, hm0⟩ : ∃ z, z = jms (jms (mzG 0) 76 35 0) 76 36 0 := ⟨_, rfl⟩
  have e32 : m0 76 32 = 0 := by rw [hm0, jms_i (by decide), jms_i (by decide)]; exact z32
  have e82 : m0 82 = mzG 0 82 := by rw [hm0, jms_o (by decide), jms_o (by decide)]
  have step : ∀ (t : Nat) (u : Int × Int × jM), t ≤ n.toNat → (u.1 = (if (t : Int) = 0 then 0 else (t : Int) - 1) ∧ u.2.1 = (t : Int) ∧ Z0 n t u.2.2) → wT ((fun u : (Int × Int × jM) => jd_293_s14 n u.1 u.2.1 u.2.2) u) (fun o => jse o (fun u' => t < n.toNat ∧ (u'.1 = (if ((t + 1 : Nat) : Int) = 0 then 0 else ((t + 1 : Nat) : Int) - 1) ∧ u'.2.1 = ((t + 1 : Nat) : Int) ∧ Z0 n (t + 1) u'.2.2)) (fun x => Z0 n n.toNat x)) := by
    intro t u ht J
    obtain ⟨x2, x3, M⟩ := u
    obtain ⟨h1, h2, ⟨a1, a2, a3, a4⟩⟩ := J
    dsimp only at h1 h2 a1 a2 a3 a4 ⊢
    subst h2
    rw [k_293s (m := M) (m0 := mzG 0) (d := 0) (by rw [a1, z32]) a2 n1 n0 (by omega) (by omega) (Or.inl ⟨by rw [z32]; decide, z82⟩) (by omega) (by omega)]
    by_cases c : n ≤ (t : Int)
    · rw [if_pos c]
      have : t = n.toNat := by omega
      exact ⟨_, rfl, by rw [← this]; exact ⟨a1, a2, a3, a4⟩⟩
    · rw [if_neg c, if_pos (Or.inl (by omega))]
      obtain ⟨v, hv⟩ : ∃ v : Int, v = if (t : Int) = 0 then 0 else 1 := ⟨_, rfl⟩
      obtain ⟨M1, hM1⟩ : ∃ z, z = jms (jms (jms M 102 (t : Int) v) 103 (t : Int) (t : Int)) 76 35 ((t : Int) + 1) := ⟨_, rfl⟩
      have v1 : jms M 102 (t : Int) v 76 35 = (t : Int) := by rw [jms_o (by decide)]; exact a3
      have v2 : jms (jms M 102 (t : Int) v) 103 (t : Int) (t : Int) 76 35 = (t : Int) := by rw [jms_o (by decide)]; exact v1
      have l0 : jd_293_l104 n (t : Int) (x2 + 1) M1 = some M1 := by
        unfold jd_293_l104
        exact jlp_r (n := 99999999) (by
          show jd_293_s104 n (t : Int) (x2 + 1) M1 = _
          unfold jd_293_s104
          have : (t : Int) ≤ x2 + 1 ∧ x2 + 1 ≤ 20 := by
            rw [h1]
            by_cases d : (t : Int) = 0
            · rw [if_pos d]; omega
            · rw [if_neg d]; omega
          rw [n_jw (z := (t : Int)) (by omega) (by omega), n_jw (z := x2 + 1) (by omega) (by omega), if_pos this.1])
      refine ⟨.inl ((t : Int), (t : Int) + 1, M1), ?_, by omega, ?_, by show (t : Int) + 1 = _; omega, ⟨?_, ?_, ?_, fun i i0 i1 => ?_⟩⟩
      · unfold jd_293_b51
        rw [if_neg (show ¬ jw 1 = 0 by decide), n_jw (z := (t : Int)) (by omega) (by omega), ← hv, a3, y_mw 102 12 rfl rfl (by omega) (by omega), Option.bind_some, v1, y_mw 103 12 rfl rfl (by omega) (by omega), Option.bind_some, v2, Option.bind_some, ← hM1, l0, Option.bind_some]
        rfl
      · show (t : Int) = _
        rw [if_neg (by omega)]
        omega
      · show M1 76 32 = 0
        rw [hM1, jms_i (by decide), jms_o (by decide), jms_o (by decide)]
        exact a1
      · show M1 82 = _
        rw [hM1, jms_o (by decide), jms_o (by decide), jms_o (by decide)]
        exact a2
      · show M1 76 35 = _
        rw [hM1, jms_e]
        omega
      · show M1 102 i = _ ∧ M1 103 i = _
        by_cases d : i = (t : Int)
        · rw [hM1, jms_o (by decide), jms_o (by decide), d, jms_e, jms_o (by decide), jms_e]
          exact ⟨hv, rfl⟩
        · have f1 : M1 102 i = M 102 i := by rw [hM1, jms_o (by decide), jms_o (by decide), jms_i d]
          have f2 : M1 103 i = M 103 i := by rw [hM1, jms_o (by decide), jms_i d, jms_o (by decide)]
          rw [f1, f2]
          exact a4 i i0 (by omega)
  obtain ⟨x, e, R⟩ := w_lp (f := fun u : (Int × Int × jM) => jd_293_s14 n u.1 u.2.1 u.2.2) (Q := fun x => Z0 n n.toNat x) (fun t u => u.1 = (if (t : Int) = 0 then 0 else (t : Int) - 1) ∧ u.2.1 = (t : Int) ∧ Z0 n t u.2.2) n.toNat step (n_fu (by omega)) (s0 := (0, 0, m0)) ⟨rfl, rfl, e32, e82, by show m0 76 35 = 0; rw [hm0, jms_i (by decide), jms_e], fun j j0 j1 => absurd j1 (by omega)⟩
  have e293 : jd_293 n (mzG 0) = some x := by
    unfold jd_293 jd_293_l14
    rw [Option.bind_some, Option.bind_some, ← hm0, e, Option.bind_some]
  unfold kkG ssG
  rw [e293]
  exact R.2.2.2 j j0 (by omega)
end Order0
