/-! which pictures one may begin with, in the class: all -/
section Keys2
variable {s : hS} {Q : hQ} {hm : hO} {I : jM} {a : Nat} {f T : Int}
theorem c_36 (F : FilmAt s Q hm a f) (h6 : s.1 ≤ 1000000) (hT : I a 4 = T) (t1 : 1 ≤ T) (t2 : T ≤ 12) (hP : ∀ j : Int, 0 ≤ j → j < T → 0 ≤ I (a + 2) j ∧ I (a + 2) j < 12) (hK : ∀ j : Int, 0 ≤ j → j < T → 0 ≤ I (a + 1) j ∧ I (a + 1) j ≤ 2) : ∃ W : Int → Int, jd_36 a (hh s Q I) = some (hh s Q (ims I (a + 7) W)) ∧ ∀ k : Int, 0 ≤ k → k < T → (W k = 0 ∨ W k = 1) ∧ (W k = 1 ↔ I (a + 1) k = 0 ∧ ∀ j : Int, k < j → j < T → I (a + 2) k < I (a + 2) j) := by
  have e13 : Q a ((13 : Nat) : Int) = some (a + 7) := F_q F 6 13 rfl rfl
  have e7 : Q a ((7 : Nat) : Int) = some (a + 1) := F_q F 0 7 rfl rfl
  have i4 : ∀ W, ims I (a + 7) W a ((4 : Nat) : Int) = T := fun W => by rw [ims_o (by omega)]; exact hT
  have i1 : ∀ W, ims I (a + 7) W (a + 1) = I (a + 1) := fun W => ims_o (by omega)
  have key : wT (jd_36_l2 a 0 (hh s Q I)) (fun u => ∃ W : Int → Int, u = hh s Q (ims I (a + 7) W) ∧ ∀ k : Int, 0 ≤ k → k < T → (W k = 0 ∨ W k = 1) ∧ (W k = 1 ↔ I (a + 1) k = 0 ∧ ∀ j : Int, k < j → j < T → I (a + 2) k < I (a + 2) j)) := by
    unfold jd_36_l2
    refine w_lp (f := fun u : (Int × jH) => jd_36_s2 a u.1 u.2) (fun i u => u.1 = (i : Int) ∧ (i : Int) ≤ T ∧ ∃ W : Int → Int, u.2 = hh s Q (ims I (a + 7) W) ∧ ∀ k : Int, 0 ≤ k → k < (i : Int) → (W k = 0 ∨ W k = 1) ∧ (W k = 1 ↔ I (a + 1) k = 0 ∧ ∀ j : Int, k < j → j < T → I (a + 2) k < I (a + 2) j)) 12 (fun i u hi hI => ?_) (n_fu (by decide)) ⟨rfl, by omega, I (a + 7), by rw [ims_self], fun k k0 k1 => absurd k1 (by omega)⟩
    obtain ⟨u1, u2⟩ := u
    obtain ⟨q1, q2, W, q3, q4⟩ := hI
    dsimp only at q1 q3 ⊢
    subst q1 q3
    unfold jd_36_s2
    rw [F_gi F, Option.bind_some, i4, n_jw (z := T) (by omega) (by omega), n_jw (z := (i : Int)) (by omega) (by omega)]
    by_cases c : T ≤ (i : Int)
    · rw [if_pos c]
      rw [show (i : Int) = T by omega] at q4
      exact ⟨_, rfl, W, rfl, q4⟩
    · have kb := hK i (by omega) (by omega)
      rw [if_neg c, F_gr F, Option.bind_some, F_gr F, Option.bind_some, e7, Option.bind_some, F_ai F h6 1 12 rfl rfl rfl (by omega) (by omega), Option.bind_some, e13, Option.bind_some, F_ta F 7 2 12 rfl rfl rfl (by omega) (by omega), Option.bind_some, ims_jms, i1, n_jw (z := I (a + 1) (i : Int)) (by omega) (by omega)]
      have at' : ∀ v : Int, jiu W (i : Int) v i = v := fun v => if_pos rfl
      obtain ⟨W', k1, k2, k3, k4⟩ := c_36i (W0 := jiu W (i : Int) (if I (a + 1) (i : Int) = 0 then 1 else 0)) F h6 hT t1 t2 hP i (by omega) (by rw [at']; split <;> omega)
      rw [k1, Option.bind_some]
      refine ⟨_, rfl, by omega, by dsimp only; omega, by omega, W', rfl, fun k k0 k5 => ?_⟩
      by_cases ek : k = i
      · subst ek
        refine ⟨k3, k4.trans ?_⟩
        rw [at']
        constructor
        · rintro ⟨h1, h2⟩
          refine ⟨?_, h2⟩
          by_cases cc : I (a + 1) (i : Int) = 0
          · exact cc
          · rw [if_neg cc] at h1
            omega
        · rintro ⟨h1, h2⟩
          exact ⟨if_pos h1, h2⟩
      · have e : W' k = W k := (k2 k ek).trans (if_neg ek)
        rw [e]
        exact q4 k k0 (by omega)
  obtain ⟨u, k1, W, k2, k3⟩ := key
  subst k2
  refine ⟨W, ?_, k3⟩
  unfold jd_36
  rw [k1, Option.bind_some]
end Keys2
