/-! one call on the fresh state: the model -/
theorem jms_s {m : jM} {a : Nat} {k v : Int} : jms m a k v a k = v := by
  unfold jms
  rw [if_pos rfl, jiu_s]
theorem jms_k {m : jM} {a : Nat} {k k' v : Int} (hk : k' ≠ k) : jms m a k v a k' = m a k' := by
  unfold jms
  rw [if_pos rfl, jiu_n hk]
theorem jms_a {m : jM} {a b : Nat} {k v : Int} (hb : b ≠ a) : jms m a k v b = m b := by
  unfold jms
  rw [if_neg hb]
theorem jin {x lo hi : Int} (h1 : jwl lo = lo) (h2 : jwl hi = hi) : jw (jd_204 (jw x) lo hi) = 0 ↔ (jw x < lo ∨ hi < jw x) := by
  unfold jd_204
  rw [jwl_jw, h1, h2]
  split
  · rw [jw_0]; omega
  · split
    · rw [jw_0]; omega
    · rw [jw_1]; omega
theorem jin0 {x lo hi : Int} (h1 : jwl lo = lo) (h2 : jwl hi = hi) (h : jw x < lo ∨ hi < jw x) : jw (jd_204 (jw x) lo hi) = 0 := (jin h1 h2).mpr h
theorem jin1 {x lo hi : Int} (h1 : jwl lo = lo) (h2 : jwl hi = hi) (h : lo ≤ jw x ∧ jw x ≤ hi) : ¬ jw (jd_204 (jw x) lo hi) = 0 := fun e => by
  have := (jin h1 h2).mp e
  omega
