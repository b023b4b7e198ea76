/-! tick: where a picture's bytes end -/
section GoOn
variable {s : hS} {Q : hQ} {hm : hO} {I : jM} {f k : Int} {a : Nat}
theorem c_42 (F : FilmAt s Q hm a f) (h6 : s.1 ≤ 1000000) (k0 : 0 ≤ k) (k1 : k < 12) : jd_42 a k (hh s Q I) = some (I (a + 5) k + 5 + I (a + 4) k) := by
  have e11 : Q a ((11 : Nat) : Int) = some (a + 5) := F_q F 4 11 rfl rfl
  have e10 : Q a ((10 : Nat) : Int) = some (a + 4) := F_q F 3 10 rfl rfl
  unfold jd_42
  rw [F_gr F, Option.bind_some, e11, Option.bind_some, F_ai F h6 5 12 rfl rfl rfl k0 k1, Option.bind_some, F_gr F, Option.bind_some, e10, Option.bind_some, F_ai F h6 4 12 rfl rfl rfl k0 k1, Option.bind_some]
end GoOn
