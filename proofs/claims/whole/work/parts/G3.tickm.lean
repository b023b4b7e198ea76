/-! tick, model: the picture laid into the player's -/
section TickM
variable {m : jM} {y k : Int}
theorem k_359c (y0 : 0 ≤ y) (y4 : y < 4) (k0 : 0 ≤ k) (k1 : k < 12) : jd_359_l261 y k 0 m = some (ims m 151 (fun x => if 864 * y ≤ x ∧ x < 864 * y + 864 then m 109 (864 * k + (x - 864 * y)) else m 151 x)) := by
  unfold jd_359_l261
  have := w_for (f := fun u : (Int × jM) => jd_359_s261 y k u.1 u.2) (fun n => ((n : Int), ims m 151 (fun x => if 864 * y ≤ x ∧ x < 864 * y + (n : Int) then m 109 (864 * k + (x - 864 * y)) else m 151 x))) 864 (x := ims m 151 (fun x => if 864 * y ≤ x ∧ x < 864 * y + 864 then m 109 (864 * k + (x - 864 * y)) else m 151 x)) (fun n hn => ?_) ?_ (n_fu (n := 864) (by decide))
  · have e : ims m 151 (fun x => if 864 * y ≤ x ∧ x < 864 * y + ((0 : Nat) : Int) then m 109 (864 * k + (x - 864 * y)) else m 151 x) = m := by
      have : (fun x : Int => if 864 * y ≤ x ∧ x < 864 * y + ((0 : Nat) : Int) then m 109 (864 * k + (x - 864 * y)) else m 151 x) = m 151 := by
        funext x
        exact if_neg (by omega)
      rw [this]
      exact ims_self
    rw [e] at this
    exact this
  · dsimp only
    unfold jd_359_s261
    have q2 : ∀ g : Int → Int, ims m 151 g 109 = m 109 := fun _ => rfl
    have e : jiu (fun x : Int => if 864 * y ≤ x ∧ x < 864 * y + (n : Int) then m 109 (864 * k + (x - 864 * y)) else m 151 x) (864 * y + (n : Int)) (m 109 (864 * k + (n : Int))) = fun x : Int => if 864 * y ≤ x ∧ x < 864 * y + ((n + 1 : Nat) : Int) then m 109 (864 * k + (x - 864 * y)) else m 151 x := by
      funext x
      unfold jiu
      by_cases c : x = 864 * y + (n : Int)
      · rw [if_pos c, if_pos (by omega), c, show 864 * y + (n : Int) - 864 * y = (n : Int) by omega]
      · rw [if_neg c]
        exact if_c (by omega)
    rw [n_jw (z := (n : Int)) (by omega) (by omega), if_neg (by omega), y_ma 109 10368 rfl rfl (by omega) (by omega), Option.bind_some, q2, y_mw 151 3456 rfl rfl (by omega) (by omega), Option.bind_some, ims_jms, e, show ((n + 1 : Nat) : Int) = (n : Int) + 1 by omega]
  · dsimp only
    unfold jd_359_s261
    rw [if_pos (by decide)]
    rfl
end TickM
