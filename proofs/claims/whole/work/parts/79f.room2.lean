/-! room for a film's bytes: none was there -/
section Room2
variable {s : hS} {Q : hQ} {hm : hO} {I : jM} {a : Nat} {f p : Int}
theorem c_25n (F : FilmAt s Q hm a f) (h6 : s.1 < 1000000) (hb : Q a 5 = none) (p0 : 0 ≤ p) (p1 : p ≤ 4000) : jd_25 a p (hh s Q I) = some (hh (s_mk s 4000 1 4000) (rms (r_mk Q s.1) a 5 (some s.1)) (i_mk I s.1)) := by
  have e5 : Q a ((5 : Nat) : Int) = none := hb
  have f0 := F.2.1 0 (by decide)
  have al : a < s.1 := f0.1
  have ne : a ≠ s.1 := Nat.ne_of_lt al
  have l' : a < (s_mk s 4000 1 4000).1 := Nat.lt_succ_of_lt al
  have t' : (s_mk s 4000 1 4000).2.2.1 a = 2 + 8 := (if_neg ne).trans f0.2.1
  have q' : r_mk Q s.1 a ((5 : Nat) : Int) = none := by
    unfold r_mk
    rw [if_neg ne]
    exact hb
  unfold jd_25 jd_25_b17 jd_25_b57
  rw [F_gr F, Option.bind_some, e5, if_pos rfl, n_jw (z := p) (by omega) (by omega), if_neg (by omega), x_na h6 (by decide) (by decide), Option.bind_some]
  dsimp only
  rw [show s_mk s (4000 : Int).toNat 1 (4000 : Int).toNat = s_mk s 4000 1 4000 from rfl, x_gr l' t', Option.bind_some, q', if_pos rfl, x_pr l' t', Option.bind_some]
  rfl
end Room2
