/-! a reader opened; does it end as told -/
section Ends
variable {s : hS} {Q : hQ} {I : jM} {A B : Nat} {p n i en : Int}
theorem c_1 (hB : B < s.1) (tB : s.2.2.1 B = 8) : jd_1 B (some A) p n (hh s Q I) = some (hh s (rms Q B ((0 : Nat) : Int) (some A)) (jms (jms (jms I B 1 (8 * p)) B 2 (8 * (p + n))) B 3 0)) := by
  unfold jd_1
  rw [x_pr hB tB, Option.bind_some, x_pi hB tB, Option.bind_some, x_pi hB tB, Option.bind_some, x_pi hB tB, Option.bind_some]
  rfl
theorem c_5 (R : BtR s Q I B A i en) : ∃ (e : Int) (I' : jM), jd_5 B (hh s Q I) = some (e, hh s Q I') ∧ (I' = I ∨ I' = jms I B 1 en) ∧ (e = 0 ∨ e = 1) ∧ (e = 1 ↔ en - i < 8 ∧ nb (btC (I A)) i (en - i).toNat = 0) := by
  obtain ⟨⟨b1, b2⟩, ⟨a1, a2, a3⟩, ab, qA, i1, i2, p0, p1, p2⟩ := id R
  have i1' : I B ((1 : Nat) : Int) = i := i1
  have i2' : I B ((2 : Nat) : Int) = en := i2
  unfold jd_5 jd_5_b33
  rw [x_gi b1 b2, Option.bind_some, x_gi b1 b2, Option.bind_some, i1', i2', n_jw (z := en - i) (by omega) (by omega)]
  by_cases c1 : en - i = 0
  · rw [if_pos c1]
    refine ⟨1, I, rfl, Or.inl rfl, Or.inr rfl, fun _ => ⟨by omega, ?_⟩, fun _ => rfl⟩
    rw [c1]
    rfl
  · rw [if_neg c1]
    by_cases c2 : 8 ≤ en - i
    · rw [if_pos c2]
      exact ⟨0, I, rfl, Or.inl rfl, Or.inl rfl, fun h => absurd h (by decide), fun h => by omega⟩
    · have d := (c_4 R (n := en - i) (by omega) (by omega)).1 (by omega)
      have nbd := nb_b (bt := btC (I A)) (btC_b (I A)) (i := i) (n := (en - i).toNat)
      have p8 : (2 : Nat) ^ (en - i).toNat ≤ 2 ^ 8 := Nat.pow_le_pow_right (by decide) (by omega)
      rw [if_neg c2, x_ck b1 b2, Option.bind_some, d, Option.bind_some]
      dsimp only
      rw [n_jw (z := nb (btC (I A)) i (en - i).toNat) (by omega) (by omega), show i + (en - i) = en by omega]
      by_cases c3 : nb (btC (I A)) i (en - i).toNat = 0
      · rw [if_pos c3]
        exact ⟨1, _, rfl, Or.inr rfl, Or.inr rfl, fun _ => ⟨by omega, c3⟩, fun _ => rfl⟩
      · rw [if_neg c3]
        exact ⟨0, _, rfl, Or.inr rfl, Or.inl rfl, fun h => absurd h (by decide), fun h => absurd h.2 c3⟩
end Ends
