/-! signed codes: both make the same of a code -/
theorem k_230 (m : jM) : jd_230 m = (jd_229 m).bind fun q => some (jd_14 q.1, q.2) := rfl
theorem n_14 {z : Int} (h0 : 0 ≤ z) (h1 : z < 2147483647) : jd_14 z = if z % 2 = 1 then (z + 1) / 2 else -(z / 2) := by
  unfold jd_14
  rw [n_and1, n_jw (by omega) (by omega), n_div (by omega) (by omega) (by decide) (by decide), n_div h0 (by omega) (by decide) (by decide)]
