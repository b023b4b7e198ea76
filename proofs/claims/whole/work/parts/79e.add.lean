/-! bytes added to a film where there is room -/
section Add
variable {s : hS} {Q : hQ} {hm : hO} {I : jM} {a b c : Nat} {f sp n len : Int}
theorem c_23e (F : FilmAt s Q hm a f) (h6 : s.1 ≤ 1000000) (hb : Q a 5 = some b) (hl : I a 6 = len) (l0 : 0 ≤ len) (n0 : 0 ≤ n) (s0 : 0 ≤ sp) (hr : len + n ≤ ((s.2.2.2 b : Nat) : Int)) (c1 : c < s.1) (c2 : s.2.2.1 c = 1) (c3 : sp + n ≤ ((s.2.2.2 c : Nat) : Int)) (c4 : s.2.2.2 c ≤ 1000000) (ba : b ≠ a) : jd_23 a (some c) sp n (hh s Q I) = some (hh s Q (jms (ims I b (fun j => if len ≤ j ∧ j < len + n then I c (sp + (j - len)) else I b j)) a 6 (len + n))) := by
  have e5 : Q a ((5 : Nat) : Int) = some b := hb
  have e6 : I a ((6 : Nat) : Int) = len := hl
  obtain ⟨-, k, hk, b1, b2, b3, -⟩ := F.2.2.2.1 b hb
  have e7 : ∀ g : Int → Int, ims I b g a ((6 : Nat) : Int) = len := fun g => by rw [ims_o (fun e => ba e.symm)]; exact hl
  unfold jd_23 jd_23_b48
  rw [F_gi F, Option.bind_some, e6, F_ck F, Option.bind_some, c_25e F h6 hb (by unfold okI; omega) hr, Option.bind_some, F_gi F, Option.bind_some, e6, F_gr F, Option.bind_some, e5, Option.bind_some, x_ln b1 h6 (by rw [b2]; decide), Option.bind_some, n_jw (z := ((s.2.2.2 b : Nat) : Int)) (by omega) (by rw [b3]; omega), n_jw (z := len + n) (by omega) (by omega), if_neg (by omega), Option.bind_some, Option.bind_some, Option.bind_some, Option.bind_some, x_cp c1 b1 c2 b2 (Or.inr rfl) s0 l0 n0 c3 hr c4 (by rw [b3]; omega), Option.bind_some, F_gi F, Option.bind_some, e7, F_pi F, Option.bind_some]
  rfl
end Add
