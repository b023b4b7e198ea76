/-! no sample mended yet, in the model -/
theorem k_242 {m : jM} {p : Int} (p0 : 0 ≤ p) (p1 : p < 12) : jd_242 p m = some (ims m 110 (fun x => if 864 * p ≤ x ∧ x < 864 * p + 864 then 0 else m 110 x)) := by
  have lp : jd_242_l2 p 0 m = some (ims m 110 (fun x => if 864 * p ≤ x ∧ x < 864 * p + 864 then 0 else m 110 x)) := by
    unfold jd_242_l2
    have := w_for (f := fun u : (Int × jM) => jd_242_s2 p u.1 u.2) (fun k => ((k : Int), ims m 110 (fun x => if 864 * p ≤ x ∧ x < 864 * p + (k : Int) then 0 else m 110 x))) 864 (x := ims m 110 (fun x => if 864 * p ≤ x ∧ x < 864 * p + 864 then 0 else m 110 x)) (fun k hk => ?_) ?_ (n_fu (by decide))
    · have e : ims m 110 (fun x => if 864 * p ≤ x ∧ x < 864 * p + ((0 : Nat) : Int) then 0 else m 110 x) = m := by
        have : (fun x : Int => if 864 * p ≤ x ∧ x < 864 * p + ((0 : Nat) : Int) then 0 else m 110 x) = m 110 := by
          funext x
          exact if_neg (by omega)
        rw [this]
        exact ims_self
      rw [e] at this
      exact this
    · dsimp only
      unfold jd_242_s2
      have e : jiu (fun x : Int => if 864 * p ≤ x ∧ x < 864 * p + (k : Int) then 0 else m 110 x) (864 * p + (k : Int)) 0 = fun x : Int => if 864 * p ≤ x ∧ x < 864 * p + ((k + 1 : Nat) : Int) then 0 else m 110 x := by
        funext x
        unfold jiu
        by_cases c : x = 864 * p + k
        · rw [if_pos c, if_pos (by omega)]
        · rw [if_neg c]
          exact if_c (by omega)
      rw [n_jw (by omega) (by omega), if_neg (by omega), y_mw 110 10368 rfl rfl (by omega) (by omega), Option.bind_some, ims_jms, e, show ((k + 1 : Nat) : Int) = (k : Int) + 1 by omega]
    · dsimp only
      unfold jd_242_s2
      rw [if_pos (by decide)]
      rfl
  unfold jd_242
  rw [lp, Option.bind_some]
