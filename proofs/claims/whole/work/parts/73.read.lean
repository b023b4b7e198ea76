/-! read: the bytes laid ready -/
section Read73
variable {s : hS} {Q : hQ} {hm : hO} {I m : jM} {a b : Nat} {f n : Int}
/-- the model's bytes to be parsed: the tape's -/
theorem k_310l (hn : m 76 5 = n) (n0 : 0 ≤ n) (n1 : n ≤ 4000) : jd_310_l37 0 m = some (ims m 112 (fun x => if 0 ≤ x ∧ x < n then jwb (m 80 x) else m 112 x)) := by
  unfold jd_310_l37
  have := w_for (f := fun u : (Int × jM) => jd_310_s37 u.1 u.2) (fun k => ((k : Int), ims m 112 (fun x => if 0 ≤ x ∧ x < (k : Int) then jwb (m 80 x) else m 112 x))) n.toNat (x := ims m 112 (fun x => if 0 ≤ x ∧ x < n then jwb (m 80 x) else m 112 x)) (fun k hk => ?_) ?_ (n_fu (n := n.toNat) (by omega))
  · have e : ims m 112 (fun x => if 0 ≤ x ∧ x < ((0 : Nat) : Int) then jwb (m 80 x) else m 112 x) = m := by
      have : (fun x : Int => if 0 ≤ x ∧ x < ((0 : Nat) : Int) then jwb (m 80 x) else m 112 x) = m 112 := by
        funext x
        exact if_neg (by omega)
      rw [this]
      exact ims_self
    rw [e] at this
    exact this
  · dsimp only
    unfold jd_310_s37
    have q1 : ∀ g : Int → Int, ims m 112 g 76 5 = n := fun _ => hn
    have q2 : ∀ g : Int → Int, ims m 112 g 80 = m 80 := fun _ => rfl
    have e : jiu (fun x : Int => if 0 ≤ x ∧ x < (k : Int) then jwb (m 80 x) else m 112 x) (k : Int) (jwb (m 80 k)) = fun x : Int => if 0 ≤ x ∧ x < ((k + 1 : Nat) : Int) then jwb (m 80 x) else m 112 x := by
      funext x
      unfold jiu
      by_cases c : x = k
      · rw [if_pos c, if_pos (by omega), c]
      · rw [if_neg c]
        exact if_c (by omega)
    rw [q1, n_jw (z := n) (by omega) (by omega), n_jw (z := (k : Int)) (by omega) (by omega), if_neg (by omega), y_ma 80 4000 rfl rfl (by omega) (by omega), Option.bind_some, q2, y_mw 112 24100 rfl rfl (by omega) (by omega), Option.bind_some, ims_jms, e, show ((k + 1 : Nat) : Int) = (k : Int) + 1 by omega]
  · dsimp only
    unfold jd_310_s37
    have q1 : ∀ g : Int → Int, ims m 112 g 76 5 = n := fun _ => hn
    rw [q1, n_jw (z := n) (by omega) (by omega), n_jw (by omega) (by omega), if_pos (by omega), show ((n.toNat : Nat) : Int) = n by omega]
/-- the class's film emptied -/
theorem c_22 (F : FilmAt s Q hm a f) : jd_22 a (hh s Q I) = some (hh s Q (ims (jms I a 6 0) (a + 8) (fun x => if 0 ≤ x ∧ x < 12 then 0 else I (a + 8) x))) := by
  have e14 : Q a ((14 : Nat) : Int) = some (a + 8) := F_q F 7 14 rfl rfl
  have key : ∀ J : jM, jd_22_l7 a 0 (hh s Q J) = some (hh s Q (ims J (a + 8) (fun x => if 0 ≤ x ∧ x < 12 then 0 else J (a + 8) x))) := by
    intro J
    unfold jd_22_l7
    have := w_for (f := fun u : (Int × jH) => jd_22_s7 a u.1 u.2) (fun k => ((k : Int), hh s Q (ims J (a + 8) (fun x => if 0 ≤ x ∧ x < (k : Int) then 0 else J (a + 8) x)))) 12 (x := hh s Q (ims J (a + 8) (fun x => if 0 ≤ x ∧ x < 12 then 0 else J (a + 8) x))) (fun k hk => ?_) ?_ (n_fu (by decide))
    · have e : ims J (a + 8) (fun x => if 0 ≤ x ∧ x < ((0 : Nat) : Int) then 0 else J (a + 8) x) = J := by
        have : (fun x : Int => if 0 ≤ x ∧ x < ((0 : Nat) : Int) then 0 else J (a + 8) x) = J (a + 8) := by
          funext x
          exact if_neg (by omega)
        rw [this]
        exact ims_self
      rw [e] at this
      exact this
    · dsimp only
      unfold jd_22_s7
      have e : jiu (fun x : Int => if 0 ≤ x ∧ x < (k : Int) then 0 else J (a + 8) x) (k : Int) 0 = fun x : Int => if 0 ≤ x ∧ x < ((k + 1 : Nat) : Int) then 0 else J (a + 8) x := by
        funext x
        unfold jiu
        by_cases c : x = k
        · rw [if_pos c, if_pos (by omega)]
        · rw [if_neg c]
          exact if_c (by omega)
      rw [n_jw (by omega) (by omega), if_neg (by omega), F_gr F, Option.bind_some, e14, Option.bind_some, F_ta F 8 2 12 rfl rfl rfl (by omega) (by omega), Option.bind_some, ims_jms, e, show ((k + 1 : Nat) : Int) = (k : Int) + 1 by omega]
    · dsimp only
      unfold jd_22_s7
      rw [if_pos (by decide)]
      rfl
  have e8 : jms I a ((6 : Nat) : Int) 0 (a + 8) = I (a + 8) := jms_o (by omega)
  unfold jd_22
  rw [F_pi F, Option.bind_some, key, Option.bind_some, e8]
  rfl
end Read73
