/-! eight bits -/
section Eight
variable {s : hS} {Q : hQ} {I : jM} {A B : Nat} {i en : Int}
theorem c_3 (R : BtR s Q I B A i en) : (8 ≤ en - i → jd_3 B (hh s Q I) = some (nb (btC (I A)) i 8, hh s Q (jms I B 1 (i + 8)))) ∧ (¬ 8 ≤ en - i → jd_3 B (hh s Q I) = some (-1, hh s Q (jms I B 3 1))) := by
  obtain ⟨d1, d2⟩ := c_4 R (n := 8) (by decide) (by decide)
  unfold jd_3
  rw [x_ck R.1.1 R.1.2, Option.bind_some]
  refine ⟨fun h => ?_, fun h => ?_⟩
  · rw [d1 h, Option.bind_some]
    rfl
  · rw [d2 h, Option.bind_some]
end Eight
