/-! room for a film's bytes: enough is there -/
section Room
variable {s : hS} {Q : hQ} {hm : hO} {I : jM} {a b : Nat} {f p : Int}
theorem c_25e (F : FilmAt s Q hm a f) (h6 : s.1 ≤ 1000000) (hb : Q a 5 = some b) (hp : okI p) (hl : p ≤ ((s.2.2.2 b : Nat) : Int)) : jd_25 a p (hh s Q I) = some (hh s Q I) := by
  have e5 : Q a ((5 : Nat) : Int) = some b := hb
  obtain ⟨-, n, hn, c1, c2, c3, -⟩ := F.2.2.2.1 b hb
  unfold jd_25
  rw [F_gr F, Option.bind_some, e5, if_neg (by simp), Option.bind_some, Option.bind_some, x_ln c1 h6 (by rw [c2]; decide), Option.bind_some, n_jw (z := ((s.2.2.2 b : Nat) : Int)) (by omega) (by rw [c3]; omega), n_jw hp.1 hp.2, if_neg (by omega)]
end Room
