/-! making: levels of a block, both sides -/
/-- a number turned into a level -/
def qz (t st : Int) : Int := if 0 ≤ t then (if (t + st / 2) / st < 4095 then (t + st / 2) / st else 4095) else -(if (-t + st / 2) / st < 4095 then (-t + st / 2) / st else 4095)
theorem qz_b {t st : Int} (s0 : 1 ≤ st) : -4095 ≤ qz t st ∧ qz t st ≤ 4095 := by
  unfold qz
  by_cases h : 0 ≤ t
  · have := Int.ediv_nonneg (show 0 ≤ t + st / 2 by omega) (show 0 ≤ st by omega)
    rw [if_pos h]
    split <;> omega
  · have := Int.ediv_nonneg (show 0 ≤ -t + st / 2 by omega) (show 0 ≤ st by omega)
    rw [if_neg h]
    split <;> omega
/-- the levels of block b, in the order in which they are told -/
def lvP (W F : Int → Int) (st b i : Int) : Int := qz (hd (fun j => W (cb b (j / 4) (j % 4)) - F (cb b (j / 4) (j % 4))) (jd_254 i / 4) (jd_254 i % 4)) st
theorem lvP_b {W F : Int → Int} {st b i : Int} (s0 : 1 ≤ st) : -4095 ≤ lvP W F st b i ∧ lvP W F st b i ≤ 4095 := qz_b s0
theorem lvP_c {W W' F F' : Int → Int} {st b i : Int} (b0 : 0 ≤ b) (b1 : b < 6) (e1 : ∀ z : Int, 0 ≤ z → z < 96 → W z = W' z) (e2 : ∀ z : Int, 0 ≤ z → z < 96 → F z = F' z) : lvP W F st b i = lvP W' F' st b i := by
  unfold lvP
  rw [hd_c (fun j j0 j1 => ?_)]
  have r := cb_r (b := b) (r := j / 4) (c := j % 4) b0 b1 (by omega) (by omega) (by omega) (by omega)
  rw [e1 _ r.1 r.2, e2 _ r.1 r.2]
theorem qz_j {t st : Int} (s0 : 1 ≤ st) (s1 : st ≤ 255) (t0 : -4080 ≤ t) (t1 : t ≤ 4080) : (if 0 ≤ jw t then (if jw (jdiv ((if 0 ≤ jw t then t else -t) + jdiv st 2) st) < jw 4095 then jdiv ((if 0 ≤ jw t then t else -t) + jdiv st 2) st else 4095) else -(if jw (jdiv ((if 0 ≤ jw t then t else -t) + jdiv st 2) st) < jw 4095 then jdiv ((if 0 ≤ jw t then t else -t) + jdiv st 2) st else 4095)) = qz t st := by
  have e95 : jw 4095 = 4095 := by decide
  have e2 : jdiv st 2 = st / 2 := n_div (by omega) (by omega) (by decide) (by decide)
  have et : jw t = t := n_jw (by omega) (by omega)
  obtain ⟨u, hu⟩ : ∃ u, st / 2 = u := ⟨_, rfl⟩
  have u0 : 0 ≤ u ∧ u ≤ 127 := by omega
  unfold qz
  rw [e95, e2, et, hu]
  by_cases h : 0 ≤ t
  · have d0 := Int.ediv_nonneg (show 0 ≤ t + u by omega) (show 0 ≤ st by omega)
    have d1 := Int.ediv_le_self st (show 0 ≤ t + u by omega)
    have ed : jdiv (t + u) st = (t + u) / st := n_div (by omega) (by omega) (by omega) (by omega)
    have ej : jw ((t + u) / st) = (t + u) / st := n_jw (by omega) (by omega)
    simp only [if_pos h]
    rw [ed, ej]
  · have d0 := Int.ediv_nonneg (show 0 ≤ -t + u by omega) (show 0 ≤ st by omega)
    have d1 := Int.ediv_le_self st (show 0 ≤ -t + u by omega)
    have ed : jdiv (-t + u) st = (-t + u) / st := n_div (by omega) (by omega) (by omega) (by omega)
    have ej : jw ((-t + u) / st) = (-t + u) / st := n_jw (by omega) (by omega)
    simp only [if_neg h]
    rw [ed, ej]
