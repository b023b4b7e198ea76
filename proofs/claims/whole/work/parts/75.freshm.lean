/-! one call on the fresh state: the model -/
theorem jms_s {m : jM} {a : Nat} {k v : Int} : jms m a k v a k = v := by
  unfold jms
  rw [if_pos rfl, jiu_s]
theorem jms_k {m : jM} {a : Nat} {k k' v : Int} (hk : k' ≠ k) : jms m a k v a k' = m a k' := by
  unfold jms
  rw [if_pos rfl, jiu_n hk]
theorem jms_a {m : jM} {a b : Nat} {k v : Int} (hb : b ≠ a) : jms m a k v b = m b := by
  unfold jms
  rw [if_neg hb]
theorem jin {x lo hi : Int} (h1 : jwl lo = lo) (h2 : jwl hi = hi) : jw (jd_204 (jw x) lo hi) = 0 ↔ (jw x < lo ∨ hi < jw x) := by
  unfold jd_204
  rw [jwl_jw, h1, h2]
  split
  · rw [jw_0]; omega
  · split
    · rw [jw_0]; omega
    · rw [jw_1]; omega
theorem jin0 {x lo hi : Int} (h1 : jwl lo = lo) (h2 : jwl hi = hi) (h : jw x < lo ∨ hi < jw x) : jw (jd_204 (jw x) lo hi) = 0 := (jin h1 h2).mpr h
theorem jin1 {x lo hi : Int} (h1 : jwl lo = lo) (h2 : jwl hi = hi) (h : lo ≤ jw x ∧ jw x ≤ hi) : ¬ jw (jd_204 (jw x) lo hi) = 0 := fun e => by
  have := (jin h1 h2).mp e
  omega
def jFm (m : jM) : Prop := (∀ k : Nat, k < 116 → m 76 (k : Int) = 0) ∧ (∀ k : Nat, k < 8 → m 82 (k : Int) = [25, 4, 0, 2, 4, 0, 1000, 0].getD k 0) ∧ (∀ k : Nat, k < 4 → m 141 (k : Int) = -1)
section JyFm
variable {m : jM} (H : jFm m)
theorem jFm_1 : m 76 1 = 0 := H.1 1 (by decide)
theorem jFm_12 : m 76 12 = 0 := H.1 12 (by decide)
theorem jFm_92 : m 76 92 = 0 := H.1 92 (by decide)
theorem jFm_7 : m 76 7 = 0 := H.1 7 (by decide)
theorem jFm_5 : m 76 5 = 0 := H.1 5 (by decide)
theorem jFm_86 : m 76 86 = 0 := H.1 86 (by decide)
theorem g_in (p : Int) : jw (jd_204 (jw p) 0 (jw (0 - 1))) = 0 := jin0 (by decide) (by decide) (by rw [show jw (0 - 1) = -1 by decide]; omega)
theorem g_210 (p : Int) : jw (jd_210 p m) = 0 := by
  unfold jd_210
  rw [jFm_1 H]
  exact g_in p
theorem g_311 (p : Int) : jw (jd_311 p m) = 0 := by
  unfold jd_311
  rw [jFm_12 H]
  exact g_in p
theorem g_218 (p0 p1 p2 p3 : Int) : jd_218 p0 p1 p2 p3 m = some 0 := by
  unfold jd_218
  rw [if_pos (g_210 H p0)]
  rfl
theorem g_314 (p0 p1 : Int) : jd_314 p0 p1 m = some 0 := by
  unfold jd_314 jd_314_b31
  rw [if_pos (g_311 H p0)]
  rfl
theorem g_320 (p0 p1 p2 p3 p4 : Int) : jd_320 p0 p1 p2 p3 p4 m = some 0 := by
  unfold jd_320
  rw [g_314 H, Option.bind_some, if_pos jw_0]
  rfl
theorem g_c1 {c : Int} (h : ¬ jw c ≤ 0) : ¬ jw (jms m 76 0 c 76 0) ≤ 0 := by rw [jms_s]; exact h
theorem g_1 : ¬ jw 1 ≤ 0 := by decide
theorem g_2 : ¬ jw 2 ≤ 0 := by decide
theorem g_3 : ¬ jw 3 ≤ 0 := by decide
end JyFm
