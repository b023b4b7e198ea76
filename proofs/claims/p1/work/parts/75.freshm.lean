/-! one call on the fresh state: the model -/
theorem jms_s {m : jM} {a : Nat} {k v : Int} : jms m a k v a k = v := by
  unfold jms
  rw [if_pos rfl, jiu_s]
theorem jms_k {m : jM} {a : Nat} {k k' v : Int} (hk : k' ≠ k) : jms m a k v a k' = m a k' := by
  unfold jms
  rw [if_pos rfl, jiu_n hk]
theorem jms_a {m : jM} {a b : Nat} {k v : Int} (hb : b ≠ a) : jms m a k v b = m b := by
  unfold jms
  rw [if_neg hb]
theorem jin {x lo hi : Int} (h1 : jwl lo = lo) (h2 : jwl hi = hi) : jw (jd_204 (jw x) lo hi) = 0 ↔ (jw x < lo ∨ hi < jw x) := by
  unfold jd_204
  rw [jwl_jw, h1, h2]
  split
  · rw [jw_0]; omega
  · split
    · rw [jw_0]; omega
    · rw [jw_1]; omega
theorem jin0 {x lo hi : Int} (h1 : jwl lo = lo) (h2 : jwl hi = hi) (h : jw x < lo ∨ hi < jw x) : jw (jd_204 (jw x) lo hi) = 0 := (jin h1 h2).mpr h
theorem jin1 {x lo hi : Int} (h1 : jwl lo = lo) (h2 : jwl hi = hi) (h : lo ≤ jw x ∧ jw x ≤ hi) : ¬ jw (jd_204 (jw x) lo hi) = 0 := fun e => by
  have := (jin h1 h2).mp e
  omega
def jFm (m : jM) : Prop := (∀ k : Nat, k < 116 → m 76 (k : Int) = 0) ∧ (∀ k : Nat, k < 8 → m 82 (k : Int) = [25, 4, 0, 2, 4, 0, 1000, 0].getD k 0) ∧ (∀ k : Nat, k < 4 → m 141 (k : Int) = -1)
section JyFm
variable {m : jM}
theorem jFm_1 (H : jFm m) : m 76 1 = 0 := H.1 1 (by decide)
theorem jFm_12 (H : jFm m) : m 76 12 = 0 := H.1 12 (by decide)
theorem jFm_92 (H : jFm m) : m 76 92 = 0 := H.1 92 (by decide)
theorem jFm_7 (H : jFm m) : m 76 7 = 0 := H.1 7 (by decide)
theorem jFm_5 (H : jFm m) : m 76 5 = 0 := H.1 5 (by decide)
theorem jFm_86 (H : jFm m) : m 76 86 = 0 := H.1 86 (by decide)
theorem g_in (p : Int) : jw (jd_204 (jw p) 0 (jw (0 - 1))) = 0 := jin0 (by decide) (by decide) (by rw [show jw (0 - 1) = -1 by decide]; omega)
theorem g_210 (H : jFm m) (p : Int) : jw (jd_210 p m) = 0 := by
  unfold jd_210
  rw [jFm_1 H]
  exact g_in p
theorem g_311 (H : jFm m) (p : Int) : jw (jd_311 p m) = 0 := by
  unfold jd_311
  rw [jFm_12 H]
  exact g_in p
theorem g_218 (H : jFm m) (p0 p1 p2 p3 : Int) : jd_218 p0 p1 p2 p3 m = some 0 := by
  unfold jd_218
  rw [if_pos (g_210 H p0)]
  rfl
theorem g_314 (H : jFm m) (p0 p1 : Int) : jd_314 p0 p1 m = some 0 := by
  unfold jd_314 jd_314_b31
  rw [if_pos (g_311 H p0)]
  rfl
theorem g_320 (H : jFm m) (p0 p1 p2 p3 p4 : Int) : jd_320 p0 p1 p2 p3 p4 m = some 0 := by
  unfold jd_320
  rw [g_314 H, Option.bind_some, if_pos jw_0]
  rfl
theorem g_c1 {c : Int} (h : ¬ jw c ≤ 0) : ¬ jw (jms m 76 0 c 76 0) ≤ 0 := by rw [jms_s]; exact h
theorem g_1 : ¬ jw 1 ≤ 0 := by decide
theorem g_2 : ¬ jw 2 ≤ 0 := by decide
theorem g_3 : ¬ jw 3 ≤ 0 := by decide
theorem g_215 (H : jFm m) (p0 p1 p2 p3 p4 p5 p6 : Int) : jd_215 p0 p1 p2 p3 p4 p5 p6 m = some (0, jms m 76 0 1) := by
  unfold jd_215 jd_215_b48
  rw [if_pos (g_210 H _), Option.bind_some, if_neg (g_c1 g_1)]
theorem g_216 (H : jFm m) (p0 p1 p2 p3 : Int) : jd_216 p0 p1 p2 p3 m = some (jms m 76 0 1) := by
  unfold jd_216 jd_216_b38
  rw [if_pos (g_210 H _), Option.bind_some, if_neg (g_c1 g_1)]
theorem g_217 (H : jFm m) (p0 p1 p2 : Int) : jd_217 p0 p1 p2 m = some (0, jms m 76 0 1) := by
  unfold jd_217 jd_217_b59
  rw [if_pos (g_210 H _), Option.bind_some, if_neg (g_c1 g_1)]
theorem g_219 (H : jFm m) (p0 p1 p2 p3 p4 : Int) : jd_219 p0 p1 p2 p3 p4 m = some (0, jms m 76 0 1) := by
  unfold jd_219 jd_219_b35
  rw [g_218 H, Option.bind_some, if_pos jw_0, Option.bind_some, if_neg (g_c1 g_1)]
theorem g_220 (H : jFm m) (p0 p1 p2 p3 : Int) : jd_220 p0 p1 p2 p3 m = some (0, jms m 76 0 1) := by
  unfold jd_220 jd_220_b46
  rw [g_218 H, Option.bind_some, if_pos jw_0, Option.bind_some, if_neg (g_c1 g_1)]
theorem g_221 (H : jFm m) (p0 p1 : Int) : jd_221 p0 p1 m = some (0, jms m 76 0 1) := by
  unfold jd_221 jd_221_b28 jd_221_b61
  rw [if_pos (g_210 H _), Option.bind_some, if_neg (g_c1 g_1)]
theorem g_224 (H : jFm m) (p0 p1 : Int) : jd_224 p0 p1 m = some (0, jms m 76 0 1) := by
  unfold jd_224 jd_224_b22
  rw [jFm_5 H, if_pos (g_in _), Option.bind_some, if_neg (g_c1 g_1)]
theorem g_297 (H : jFm m) (p0 : Int) : jd_297 p0 m = some (0, jms m 76 0 1) := by
  unfold jd_297 jd_297_b64
  rw [if_pos (g_210 H _), Option.bind_some, if_neg (g_c1 g_1)]
theorem g_347 (H : jFm m) (p0 p1 p2 : Int) : jd_347 p0 p1 p2 m = some (0, jms m 76 0 1) := by
  unfold jd_347 jd_347_b43
  rw [jFm_92 H, if_pos (g_in _), Option.bind_some, if_neg (g_c1 g_1)]
theorem g_348 (H : jFm m) (p0 p1 p2 : Int) : jd_348 p0 p1 p2 m = some (0, jms m 76 0 1) := by
  unfold jd_348 jd_348_b21 jd_348_b80
  rw [if_pos (g_210 H _), if_pos jw_0, Option.bind_some, if_neg (g_c1 g_1)]
theorem g_312 (H : jFm m) (p0 : Int) : jd_312 p0 m = some (0, jms m 76 0 1) := by
  unfold jd_312
  rw [if_pos (g_311 H _), Option.bind_some, if_neg (g_c1 g_1)]
theorem g_313 (H : jFm m) (p0 p1 : Int) : jd_313 p0 p1 m = some (0, jms m 76 0 1) := by
  unfold jd_313 jd_313_b30
  rw [if_pos (g_311 H _), Option.bind_some, if_neg (g_c1 g_1)]
theorem g_315 (H : jFm m) (p0 p1 p2 : Int) : jd_315 p0 p1 p2 m = some (0, jms m 76 0 1) := by
  unfold jd_315 jd_315_b31
  rw [g_314 H, Option.bind_some, if_pos jw_0, Option.bind_some, if_neg (g_c1 g_1)]
theorem g_317 (H : jFm m) (p0 p1 p2 p3 : Int) : jd_317 p0 p1 p2 p3 m = some (0, jms m 76 0 1) := by
  unfold jd_317 jd_317_b36 jd_317_b94
  rw [g_314 H, Option.bind_some, if_pos jw_0, Option.bind_some, if_neg (g_c1 g_1)]
theorem g_321 (H : jFm m) (p0 p1 p2 p3 p4 : Int) : jd_321 p0 p1 p2 p3 p4 m = some (0, jms m 76 0 1) := by
  unfold jd_321 jd_321_b50
  rw [g_320 H, Option.bind_some, if_pos jw_0, Option.bind_some, if_neg (g_c1 g_1)]
theorem g_322 (H : jFm m) (p0 p1 p2 p3 p4 : Int) : jd_322 p0 p1 p2 p3 p4 m = some (0, jms m 76 0 1) := by
  unfold jd_322 jd_322_b54
  rw [g_320 H, Option.bind_some, if_pos jw_0, Option.bind_some, if_neg (by rw [jms_s]; decide)]
  rfl
theorem g_323 (H : jFm m) (p0 p1 : Int) : jd_323 p0 p1 m = some (0, jms m 76 0 1) := by
  unfold jd_323 jd_323_b28
  rw [g_314 H, Option.bind_some, if_pos jw_0, Option.bind_some, if_neg (g_c1 g_1)]
theorem g_324 (H : jFm m) (p0 p1 p2 p3 : Int) : jd_324 p0 p1 p2 p3 m = some (0, jms m 76 0 1) := by
  unfold jd_324 jd_324_b48
  rw [g_314 H, Option.bind_some, if_pos jw_0, Option.bind_some, if_neg (g_c1 g_1)]
theorem g_325 (H : jFm m) (p0 p1 p2 : Int) : jd_325 p0 p1 p2 m = some (0, jms m 76 0 1) := by
  unfold jd_325 jd_325_b19
  rw [g_314 H, Option.bind_some, if_pos jw_0, Option.bind_some, if_neg (g_c1 g_1)]
theorem g_331 (H : jFm m) (p0 p1 : Int) : jd_331 p0 p1 m = some (0, jms m 76 0 1) := by
  unfold jd_331 jd_331_b44
  rw [g_314 H, Option.bind_some, if_pos jw_0, Option.bind_some, if_neg (by rw [jms_s]; decide)]
  rfl
theorem g_350 (H : jFm m) (p0 p1 : Int) : jd_350 p0 p1 m = some (0, jms m 76 0 1) := by
  unfold jd_350
  rw [g_314 H, Option.bind_some, if_pos jw_0, Option.bind_some, if_neg (g_c1 g_1)]
theorem g_352 (H : jFm m) (p0 p1 : Int) : jd_352 p0 p1 m = some (0, jms m 76 0 1) := by
  unfold jd_352
  rw [g_314 H, Option.bind_some, if_pos jw_0, Option.bind_some, if_neg (g_c1 g_1)]
theorem g_354 (H : jFm m) (p0 p1 p2 p3 : Int) : jd_354 p0 p1 p2 p3 m = some (0, jms m 76 0 1) := by
  unfold jd_354 jd_354_b31 jd_354_b371
  rw [g_314 H, Option.bind_some, if_pos jw_0, Option.bind_some, if_neg (g_c1 g_1)]
theorem g_300 (H : jFm m) (p0 : Int) : jd_300 p0 m = some (0, jms m 76 0 1) := by
  unfold jd_300 jd_300_b38
  rw [jFm_7 H]
  by_cases hp : jw (jd_204 (jw p0) 0 2) = 0
  · rw [if_pos hp, Option.bind_some, if_neg (g_c1 g_1)]
  · rw [if_neg hp, if_pos jw_0, Option.bind_some, if_neg (g_c1 g_1)]
theorem g_356 (H : jFm m) (p0 p1 p2 p3 : Int) : jd_356 p0 p1 p2 p3 m = some (jms m 76 0 1) := by
  unfold jd_356 jd_356_b50
  rw [if_pos (g_311 H _)]
  by_cases hp : jw (jd_355 p0) = 0
  · rw [if_pos hp, Option.bind_some, if_neg (g_c1 g_1)]
  · rw [if_neg hp, Option.bind_some, if_neg (g_c1 g_1)]
theorem g_355n {p : Int} (hp : jw p < 0 ∨ 4 ≤ jw p) : jw (jd_355 p) = 0 := jin0 (by decide) (by decide) (by omega)
theorem g_355 {p : Int} (hp : 0 ≤ jw p ∧ jw p < 4) : ¬ jw (jd_355 p) = 0 := jin1 (by decide) (by decide) (by omega)
theorem g_fo (H : jFm m) {p : Int} (hp : 0 ≤ jw p ∧ jw p < 4) : jma m 141 p = some (-1) := by
  unfold jma
  rw [if_pos (show 0 ≤ jw p ∧ jw p < ((jmt 141).2 : Int) from ⟨hp.1, hp.2⟩)]
  have e : ((jw p).toNat : Int) = jw p := Int.toNat_of_nonneg hp.1
  rw [← e, H.2.2 _ (by omega)]
theorem g_357 (H : jFm m) (p : Int) : jd_357 p m = some (1, jms m 76 0 (if 0 ≤ jw p ∧ jw p < 4 then 2 else 1)) := by
  unfold jd_357 jd_357_b27
  by_cases hp : 0 ≤ jw p ∧ jw p < 4
  · rw [if_neg (g_355 hp), g_fo H hp, Option.bind_some, if_pos (show jw (-1) = -1 by decide), Option.bind_some, if_neg (g_c1 g_2), if_pos hp]
  · rw [if_pos (g_355n (by omega)), Option.bind_some, if_neg (g_c1 g_1), if_neg hp]
theorem g_359 (H : jFm m) (p : Int) : jd_359 p m = some (0, jms m 76 0 (if 0 ≤ jw p ∧ jw p < 4 then 2 else 1)) := by
  unfold jd_359
  rw [g_357 H, Option.bind_some, if_neg (show ¬ jw 1 = 0 by decide)]
theorem g_360 (H : jFm m) (p q : Int) : jd_360 p q m = some (jms m 76 0 (if 0 ≤ jw p ∧ jw p < 4 then 2 else 1)) := by
  unfold jd_360
  rw [g_357 H, Option.bind_some, if_neg (show ¬ jw 1 = 0 by decide)]
theorem g_361 (H : jFm m) (p q : Int) : jd_361 p q m = some (jms m 76 0 (if 0 ≤ jw p ∧ jw p < 4 then 2 else 1)) := by
  unfold jd_361 jd_361_b32 jd_361_b36 jd_361_b51
  by_cases hp : 0 ≤ jw p ∧ jw p < 4
  · rw [if_neg (g_355 hp), g_fo H hp, Option.bind_some, if_pos (show jw (-1) = -1 by decide), Option.bind_some, if_pos (show jw (-1) = -1 by decide), Option.bind_some, if_neg (g_c1 g_2), if_pos hp]
  · rw [if_pos (g_355n (by omega)), Option.bind_some, if_neg (g_c1 g_1), if_neg hp]
theorem g_362 (H : jFm m) (p q : Int) : jd_362 p q m = some (0, jms m 76 0 (if 0 ≤ jw p ∧ jw p < 4 then (if 0 ≤ jw q ∧ jw q ≤ 5 then 3 else 2) else 1)) := by
  unfold jd_362 jd_362_b43
  by_cases hp : 0 ≤ jw p ∧ jw p < 4
  · rw [if_neg (g_355 hp), if_pos hp]
    by_cases hq : 0 ≤ jw q ∧ jw q ≤ 5
    · rw [if_neg (jin1 (by decide) (by decide) hq), g_fo H hp, Option.bind_some, if_pos (show jw (-1) = -1 by decide), Option.bind_some, if_neg (g_c1 g_3), if_pos hq]
    · rw [if_pos (jin0 (by decide) (by decide) (by omega)), Option.bind_some, if_neg (g_c1 g_2), if_neg hq]
  · rw [if_pos (g_355n (by omega)), Option.bind_some, if_neg (g_c1 g_1), if_neg hp]
theorem jFm_c (c : Int) : jFm (jms m 76 0 c) → True := fun _ => trivial
theorem g_363 (H : jFm m) (p q r s : Int) : ∃ m', jd_363 p q r s m = some (0, m') ∧ m' 76 0 = (if (0 ≤ jw p ∧ jw p < 4) ∧ 0 ≤ jw q ∧ jw q ≤ 2 then 2 else 1) := by
  unfold jd_363 jd_363_b20 jd_363_b98 jd_363_b131 jd_363_b177
  by_cases hp : 0 ≤ jw p ∧ jw p < 4
  · rw [if_neg (g_355 hp)]
    by_cases hq : 0 ≤ jw q ∧ jw q ≤ 2
    · have e : jma (jms m 76 0 0) 141 p = some (-1) := by
        unfold jma
        rw [jms_a (by decide)]
        exact g_fo H hp
      rw [if_neg (show ¬ jw (jd_211 q) = 0 from jin1 (by decide) (by decide) hq), Option.bind_some, if_pos (by rw [jms_s]; decide), e, Option.bind_some, if_pos (show jw (-1) = -1 by decide), if_neg (show ¬ jw 1 = 0 by decide), if_pos (show jw (-1) = -1 by decide), Option.bind_some, if_neg (g_c1 g_2), if_pos ⟨hp, hq⟩]
      exact ⟨_, rfl, jms_s⟩
    · rw [if_pos (show jw (jd_211 q) = 0 from jin0 (by decide) (by decide) (by omega)), Option.bind_some, if_neg (g_c1 g_1), if_neg (by omega)]
      exact ⟨_, rfl, jms_s⟩
  · rw [if_pos (g_355n (by omega)), Option.bind_some, if_neg (g_c1 g_1), if_neg (by omega)]
    exact ⟨_, rfl, jms_s⟩
theorem g_364n (H : jFm m) {p : Int} (hp : jw p < 0 ∨ 5 < jw p) : jd_364 p m = some (0, jms m 76 0 1) := by
  unfold jd_364
  rw [if_pos (jin0 (by decide) (by decide) hp), Option.bind_some, if_neg (by omega), if_neg (by omega), if_neg (by omega), if_neg (by omega), if_neg (by omega), if_neg (by omega)]
theorem g_364 (H : jFm m) {p : Int} (h0 : 0 ≤ jw p) (h1 : jw p ≤ 5) : jd_364 p m = some (0, jms m 76 0 0) := by
  unfold jd_364
  rw [if_neg (jin1 (by decide) (by decide) ⟨h0, h1⟩), Option.bind_some, jms_k (by decide), jms_k (by decide), jms_k (by decide), jms_k (by decide), jms_k (by decide), jms_k (by decide), jFm_1 H, jFm_12 H, jFm_92 H, jFm_7 H, jFm_86 H, jFm_5 H]
  split
  · rfl
  · split
    · rfl
    · split
      · rfl
      · split
        · rfl
        · split
          · rfl
          · split <;> rfl
theorem g_225 (H : jFm m) (p : Int) : jd_225 p m = some (-1, jms m 76 0 0) := by
  unfold jd_225 jd_225_b31
  rw [Option.bind_some, jms_k (by decide), jFm_5 H, if_pos (g_in p)]
theorem g_226 (H : jFm m) : jd_226 m = some (0, jms (jms m 76 0 0) 76 5 0) := by
  unfold jd_226
  rw [Option.bind_some, Option.bind_some, jms_k (by decide), jFm_5 H]
theorem g_298 (H : jFm m) : jd_298 m = some (0, jms (jms m 76 0 0) 76 7 0) := by
  unfold jd_298
  rw [Option.bind_some, Option.bind_some, jms_k (by decide), jFm_7 H]
theorem g_222n (H : jFm m) {p : Int} (hp : jw p < 0) : jd_222 p m = some (0, jms m 76 0 1) := by
  unfold jd_222
  rw [if_neg (by omega), Option.bind_some, if_neg (g_c1 g_1)]
theorem g_222 (H : jFm m) {p : Int} (hp : 0 ≤ jw p) : ∃ m', jd_222 p m = some (0, m') ∧ m' 76 0 = 0 := by
  unfold jd_222
  rw [if_pos hp, Option.bind_some, if_pos (by rw [jms_s]; decide), jms_k (by decide), jFm_1 H, jw_0, if_pos hp, Option.bind_some]
  exact ⟨_, by rw [jms_s], by rw [jms_k (by decide), jms_s]⟩
end JyFm
