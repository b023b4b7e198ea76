/-! the law, turn by turn -/
section Turns
variable {L : Nat} {xs : Nat → Int32} {i : Int} {h : jH}
theorem stl_0 (hi : 0 ≤ i) (hL : i + 8 ≤ L) (hLL : L ≤ 1000) (R : RelL h) (h6 : h.1 ≤ 900000) : StL (jd_403_b224 L xs (some 0) (some 76) (some 152) i h) i h := by
  obtain ⟨hx, ht⟩ := RelL_t R
  rcases gl_I (C := fun h => jd_140 0 (jX xs i 1) (jX xs i 2) (jX xs i 3) (jX xs i 4) (jX xs i 5) h) (M := fun m => jd_214 (jX xs i 1) (jX xs i 2) (jX xs i 3) (jX xs i 4) (jX xs i 5) m) (fun R h6 => si_blank R (by omega) (okX _ _ _) (okX _ _ _) (okX _ _ _) (okX _ _ _) (okX _ _ _)) R h6 jw with ⟨v, b, h1, m', c1, ly, c2, k, e, RR, G⟩ | ⟨E, b, h1, m', c1, ly, c2, k, k1, RR, G⟩
  · exact ⟨_, _, lwr_0 hi hL hLL hx ht c1 ly c2 k e, rfl, RR, G⟩
  · by_cases e0 : E = 0
    · subst e0
      exact ⟨_, _, lwt_0_0 hi hL hLL hx ht c1 ly c2 (k.trans rfl), rfl, RR, G⟩
    by_cases e1 : E = 1
    · subst e1
      exact ⟨_, _, lwt_0_1 hi hL hLL hx ht c1 ly c2 (k.trans rfl), rfl, RR, G⟩
    have k2 : (1 : Int) ≤ (if E = 0 then 1 else if E = 1 then 2 else 0) := k1
    rw [if_neg e0, if_neg e1] at k2
    exact absurd k2 (by decide)
theorem stl_1 (hi : 0 ≤ i) (hL : i + 8 ≤ L) (hLL : L ≤ 1000) (R : RelL h) (h6 : h.1 ≤ 900000) : StL (jd_403_b328 L xs (some 0) (some 76) (some 152) i h) i h := by
  obtain ⟨hx, ht⟩ := RelL_t R
  rcases gl_I (C := fun h => jd_141 0 (jX xs i 1) (jX xs i 2) (jX xs i 3) (jX xs i 4) (jX xs i 5) (jX xs i 6) (jX xs i 7) h) (M := fun m => jd_215 (jX xs i 1) (jX xs i 2) (jX xs i 3) (jX xs i 4) (jX xs i 5) (jX xs i 6) (jX xs i 7) m) (fun R h6 => si_fill R (by omega) (okX _ _ _) (okX _ _ _) (okX _ _ _) (okX _ _ _) (okX _ _ _) (okX _ _ _) (okX _ _ _)) R h6 jw with ⟨v, b, h1, m', c1, ly, c2, k, e, RR, G⟩ | ⟨E, b, h1, m', c1, ly, c2, k, k1, RR, G⟩
  · exact ⟨_, _, lwr_1 hi hL hLL hx ht c1 ly c2 k e, rfl, RR, G⟩
  · by_cases e2 : E = 2
    · subst e2
      exact ⟨_, _, lwt_1_2 hi hL hLL hx ht c1 ly c2 (k.trans rfl), rfl, RR, G⟩
    by_cases e0 : E = 0
    · subst e0
      exact ⟨_, _, lwt_1_0 hi hL hLL hx ht c1 ly c2 (k.trans rfl), rfl, RR, G⟩
    have k2 : (1 : Int) ≤ (if E = 2 then 1 else if E = 0 then 2 else 0) := k1
    rw [if_neg e2, if_neg e0] at k2
    exact absurd k2 (by decide)
theorem stl_2 (hi : 0 ≤ i) (hL : i + 8 ≤ L) (hLL : L ≤ 1000) (R : RelL h) (h6 : h.1 ≤ 900000) : StL (jd_403_b460 L xs (some 0) (some 76) (some 152) i h) i h := by
  obtain ⟨hx, ht⟩ := RelL_t R
  rcases gl_V (C := fun h => jd_142 0 (jX xs i 1) (jX xs i 2) (jlor (jlshl (jw (jX xs i 3)) 32) (jland (jw (jX xs i 4)) 4294967295)) (jX xs i 5) h) (M := fun m => jd_216 (jX xs i 1) (jX xs i 2) (jlor (jlshl (jw (jX xs i 3)) 32) (jland (jw (jX xs i 4)) 4294967295)) (jX xs i 5) m) (fun R h6 => si_noise R (by omega) (okX _ _ _) (okX _ _ _) (okX _ _ _)) R h6 with ⟨h1, m', c1, ly, c2, k, RR, G⟩ | ⟨E, h1, m', c1, ly, c2, k, k1, RR, G⟩
  · exact ⟨_, _, lwr_2 (b := 0) hi hL hLL hx ht c1 ly c2 k, rfl, RR, G⟩
  · by_cases e2 : E = 2
    · subst e2
      exact ⟨_, _, lwt_2_2 (b := 0) hi hL hLL hx ht c1 ly c2 (k.trans rfl), rfl, RR, G⟩
    by_cases e0 : E = 0
    · subst e0
      exact ⟨_, _, lwt_2_0 (b := 0) hi hL hLL hx ht c1 ly c2 (k.trans rfl), rfl, RR, G⟩
    have k2 : (1 : Int) ≤ (if E = 2 then 1 else if E = 0 then 2 else 0) := k1
    rw [if_neg e2, if_neg e0] at k2
    exact absurd k2 (by decide)
theorem stl_3 (hi : 0 ≤ i) (hL : i + 8 ≤ L) (hLL : L ≤ 1000) (R : RelL h) (h6 : h.1 ≤ 900000) : StL (jd_403_b564 L xs (some 0) (some 76) (some 152) i h) i h := by
  obtain ⟨hx, ht⟩ := RelL_t R
  rcases gl_I (C := fun h => jd_143 0 (jX xs i 1) (jX xs i 2) (jX xs i 3) h) (M := fun m => jd_217 (jX xs i 1) (jX xs i 2) (jX xs i 3) m) (fun R h6 => si_shift R (by omega) (okX _ _ _) (okX _ _ _) (okX _ _ _)) R h6 jw with ⟨v, b, h1, m', c1, ly, c2, k, e, RR, G⟩ | ⟨E, b, h1, m', c1, ly, c2, k, k1, RR, G⟩
  · exact ⟨_, _, lwr_3 hi hL hLL hx ht c1 ly c2 k e, rfl, RR, G⟩
  · by_cases e2 : E = 2
    · subst e2
      exact ⟨_, _, lwt_3_2 hi hL hLL hx ht c1 ly c2 (k.trans rfl), rfl, RR, G⟩
    by_cases e0 : E = 0
    · subst e0
      exact ⟨_, _, lwt_3_0 hi hL hLL hx ht c1 ly c2 (k.trans rfl), rfl, RR, G⟩
    by_cases e1 : E = 1
    · subst e1
      exact ⟨_, _, lwt_3_1 hi hL hLL hx ht c1 ly c2 (k.trans rfl), rfl, RR, G⟩
    have k2 : (1 : Int) ≤ (if E = 2 then 1 else if E = 0 then 2 else if E = 1 then 3 else 0) := k1
    rw [if_neg e2, if_neg e0, if_neg e1] at k2
    exact absurd k2 (by decide)
theorem stl_4 (hi : 0 ≤ i) (hL : i + 8 ≤ L) (hLL : L ≤ 1000) (R : RelL h) (h6 : h.1 ≤ 900000) : StL (jd_403_b644 L xs (some 0) (some 76) (some 152) i h) i h := by
  obtain ⟨hx, ht⟩ := RelL_t R
  rcases gl_I (C := fun h => jd_144 0 (jX xs i 1) (jX xs i 2) (jX xs i 3) (jX xs i 4) (jX xs i 5) h) (M := fun m => jd_219 (jX xs i 1) (jX xs i 2) (jX xs i 3) (jX xs i 4) (jX xs i 5) m) (fun R h6 => si_put R (by omega) (okX _ _ _) (okX _ _ _) (okX _ _ _) (okX _ _ _) (okX _ _ _)) R h6 jw with ⟨v, b, h1, m', c1, ly, c2, k, e, RR, G⟩ | ⟨E, b, h1, m', c1, ly, c2, k, k1, RR, G⟩
  · exact ⟨_, _, lwr_4 hi hL hLL hx ht c1 ly c2 k e, rfl, RR, G⟩
  · by_cases e2 : E = 2
    · subst e2
      exact ⟨_, _, lwt_4_2 hi hL hLL hx ht c1 ly c2 (k.trans rfl), rfl, RR, G⟩
    by_cases e0 : E = 0
    · subst e0
      exact ⟨_, _, lwt_4_0 hi hL hLL hx ht c1 ly c2 (k.trans rfl), rfl, RR, G⟩
    have k2 : (1 : Int) ≤ (if E = 2 then 1 else if E = 0 then 2 else 0) := k1
    rw [if_neg e2, if_neg e0] at k2
    exact absurd k2 (by decide)
theorem stl_5 (hi : 0 ≤ i) (hL : i + 8 ≤ L) (hLL : L ≤ 1000) (R : RelL h) (h6 : h.1 ≤ 900000) : StL (jd_403_b748 L xs (some 0) (some 76) (some 152) i h) i h := by
  obtain ⟨hx, ht⟩ := RelL_t R
  rcases gl_I (C := fun h => jd_145 0 (jX xs i 1) (jX xs i 2) (jX xs i 3) (jX xs i 4) h) (M := fun m => jd_220 (jX xs i 1) (jX xs i 2) (jX xs i 3) (jX xs i 4) m) (fun R h6 => si_sample R (by omega) (okX _ _ _) (okX _ _ _) (okX _ _ _) (okX _ _ _)) R h6 jw with ⟨v, b, h1, m', c1, ly, c2, k, e, RR, G⟩ | ⟨E, b, h1, m', c1, ly, c2, k, k1, RR, G⟩
  · exact ⟨_, _, lwr_5 hi hL hLL hx ht c1 ly c2 k e, rfl, RR, G⟩
  · by_cases e2 : E = 2
    · subst e2
      exact ⟨_, _, lwt_5_2 hi hL hLL hx ht c1 ly c2 (k.trans rfl), rfl, RR, G⟩
    have k2 : (1 : Int) ≤ (if E = 2 then 1 else 0) := k1
    rw [if_neg e2] at k2
    exact absurd k2 (by decide)
theorem stl_6 (hi : 0 ≤ i) (hL : i + 8 ≤ L) (hLL : L ≤ 1000) (R : RelL h) (h6 : h.1 ≤ 900000) : StL (jd_403_b840 L xs (some 0) (some 76) (some 152) i h) i h := by
  obtain ⟨hx, ht⟩ := RelL_t R
  rcases gl_I (C := fun h => jd_146 0 (jX xs i 1) (jX xs i 2) h) (M := fun m => jd_221 (jX xs i 1) (jX xs i 2) m) (fun R h6 => si_size R (by omega) (okX _ _ _) (okX _ _ _)) R h6 jw with ⟨v, b, h1, m', c1, ly, c2, k, e, RR, G⟩ | ⟨E, b, h1, m', c1, ly, c2, k, k1, RR, G⟩
  · exact ⟨_, _, lwr_6 hi hL hLL hx ht c1 ly c2 k e, rfl, RR, G⟩
  · by_cases e2 : E = 2
    · subst e2
      exact ⟨_, _, lwt_6_2 hi hL hLL hx ht c1 ly c2 (k.trans rfl), rfl, RR, G⟩
    by_cases e0 : E = 0
    · subst e0
      exact ⟨_, _, lwt_6_0 hi hL hLL hx ht c1 ly c2 (k.trans rfl), rfl, RR, G⟩
    have k2 : (1 : Int) ≤ (if E = 2 then 1 else if E = 0 then 2 else 0) := k1
    rw [if_neg e2, if_neg e0] at k2
    exact absurd k2 (by decide)
theorem stl_7 (hi : 0 ≤ i) (hL : i + 8 ≤ L) (hLL : L ≤ 1000) (R : RelL h) (h6 : h.1 ≤ 900000) : StL (jd_403_b908 L xs (some 0) (some 76) (some 152) i h) i h := by
  obtain ⟨hx, ht⟩ := RelL_t R
  rcases gl_I (C := fun h => jd_147 0 (jX xs i 1) h) (M := fun m => jd_222 (jX xs i 1) m) (fun R h6 => si_drop R (by omega) (okX _ _ _)) R h6 jw with ⟨v, b, h1, m', c1, ly, c2, k, e, RR, G⟩ | ⟨E, b, h1, m', c1, ly, c2, k, k1, RR, G⟩
  · exact ⟨_, _, lwr_7 hi hL hLL hx ht c1 ly c2 k e, rfl, RR, G⟩
  · by_cases e0 : E = 0
    · subst e0
      exact ⟨_, _, lwt_7_0 hi hL hLL hx ht c1 ly c2 (k.trans rfl), rfl, RR, G⟩
    have k2 : (1 : Int) ≤ (if E = 0 then 1 else 0) := k1
    rw [if_neg e0] at k2
    exact absurd k2 (by decide)
theorem stl_8 (hi : 0 ≤ i) (hL : i + 8 ≤ L) (hLL : L ≤ 1000) (R : RelL h) (h6 : h.1 ≤ 900000) : StL (jd_403_b964 L xs (some 0) (some 76) (some 152) i h) i h := by
  obtain ⟨hx, ht⟩ := RelL_t R
  rcases gl_I (C := fun h => jd_148 0 (jlor (jlshl (jw (jX xs i 1)) 32) (jland (jw (jX xs i 2)) 4294967295)) (jX xs i 3) h) (M := fun m => jd_223 (jlor (jlshl (jw (jX xs i 1)) 32) (jland (jw (jX xs i 2)) 4294967295)) (jX xs i 3) m) (fun R h6 => si_feed R (by omega) (okX _ _ _)) R h6 jw with ⟨v, b, h1, m', c1, ly, c2, k, e, RR, G⟩ | ⟨E, b, h1, m', c1, ly, c2, k, k1, RR, G⟩
  · exact ⟨_, _, lwr_8 hi hL hLL hx ht c1 ly c2 k e, rfl, RR, G⟩
  · by_cases e0 : E = 0
    · subst e0
      exact ⟨_, _, lwt_8_0 hi hL hLL hx ht c1 ly c2 (k.trans rfl), rfl, RR, G⟩
    by_cases e1 : E = 1
    · subst e1
      exact ⟨_, _, lwt_8_1 hi hL hLL hx ht c1 ly c2 (k.trans rfl), rfl, RR, G⟩
    have k2 : (1 : Int) ≤ (if E = 0 then 1 else if E = 1 then 2 else 0) := k1
    rw [if_neg e0, if_neg e1] at k2
    exact absurd k2 (by decide)
theorem stl_9 (hi : 0 ≤ i) (hL : i + 8 ≤ L) (hLL : L ≤ 1000) (R : RelL h) (h6 : h.1 ≤ 900000) : StL (jd_403_b1064 L xs (some 0) (some 76) (some 152) i h) i h := by
  obtain ⟨hx, ht⟩ := RelL_t R
  rcases gl_I (C := fun h => jd_149 0 (jX xs i 1) (jX xs i 2) h) (M := fun m => jd_224 (jX xs i 1) (jX xs i 2) m) (fun R h6 => si_alter R (by omega) (okX _ _ _)) R h6 jw with ⟨v, b, h1, m', c1, ly, c2, k, e, RR, G⟩ | ⟨E, b, h1, m', c1, ly, c2, k, k1, RR, G⟩
  · exact ⟨_, _, lwr_9 hi hL hLL hx ht c1 ly c2 k e, rfl, RR, G⟩
  · by_cases e2 : E = 2
    · subst e2
      exact ⟨_, _, lwt_9_2 hi hL hLL hx ht c1 ly c2 (k.trans rfl), rfl, RR, G⟩
    have k2 : (1 : Int) ≤ (if E = 2 then 1 else 0) := k1
    rw [if_neg e2] at k2
    exact absurd k2 (by decide)
theorem stl_10 (hi : 0 ≤ i) (hL : i + 8 ≤ L) (hLL : L ≤ 1000) (R : RelL h) (h6 : h.1 ≤ 900000) : StL (jd_403_b1132 L xs (some 0) (some 76) (some 152) i h) i h := by
  obtain ⟨hx, ht⟩ := RelL_t R
  obtain ⟨ly, s, Q, hm, I, rfl, RH⟩ := R
  obtain ⟨c1, c2⟩ := si_tape RH (okX xs i 1)
  refine ⟨_, _, lwr_10 (h1 := hh s Q I) hi hL hLL hx ht c1 ly c2 rfl, rfl, ?_, ⟨Nat.le_add_right _ _, Nat.le_add_right _ _⟩⟩
  exact RelL_hm ly (RelH_fr (P := fun _ => True) Sm_refl (fun _ _ => trivial) RH.1 Mm_c RH) (fun a _ => rfl)
theorem stl_11 (hi : 0 ≤ i) (hL : i + 8 ≤ L) (hLL : L ≤ 1000) (R : RelL h) (h6 : h.1 ≤ 900000) : StL (jd_403_b1157 L xs (some 0) (some 76) (some 152) i h) i h := by
  obtain ⟨hx, ht⟩ := RelL_t R
  obtain ⟨v, b, h1, m', c1, ly, c2, e, RR, G⟩ := gl_N (C := fun h => jd_151 0 h) (M := fun m => jd_226 m) (fun R => si_wipe R) R h6
  exact ⟨_, _, lwr_11 hi hL hLL hx ht c1 ly c2 e, rfl, RR, G⟩
theorem stl_12 (hi : 0 ≤ i) (hL : i + 8 ≤ L) (hLL : L ≤ 1000) (R : RelL h) (h6 : h.1 ≤ 900000) : StL (jd_403_b1170 L xs (some 0) (some 76) (some 152) i h) i h := by
  obtain ⟨hx, ht⟩ := RelL_t R
  rcases gl_I (C := fun h => jd_152 0 (jX xs i 1) (jX xs i 2) h) (M := fun m => jd_296 (jX xs i 1) (jX xs i 2) m) (fun R h6 => si_set R (by omega) (okX _ _ _) (okX _ _ _)) R h6 jw with ⟨v, b, h1, m', c1, ly, c2, k, e, RR, G⟩ | ⟨E, b, h1, m', c1, ly, c2, k, k1, RR, G⟩
  · exact ⟨_, _, lwr_12 hi hL hLL hx ht c1 ly c2 k e, rfl, RR, G⟩
  · by_cases e0 : E = 0
    · subst e0
      exact ⟨_, _, lwt_12_0 hi hL hLL hx ht c1 ly c2 (k.trans rfl), rfl, RR, G⟩
    have k2 : (1 : Int) ≤ (if E = 0 then 1 else 0) := k1
    rw [if_neg e0] at k2
    exact absurd k2 (by decide)
theorem stl_13 (hi : 0 ≤ i) (hL : i + 8 ≤ L) (hLL : L ≤ 1000) (R : RelL h) (h6 : h.1 ≤ 900000) : StL (jd_403_b1238 L xs (some 0) (some 76) (some 152) i h) i h := by
  obtain ⟨hx, ht⟩ := RelL_t R
  rcases gl_I (C := fun h => jd_153 0 (jX xs i 1) h) (M := fun m => jd_297 (jX xs i 1) m) (fun R h6 => si_reel R (by omega) (okX _ _ _)) R h6 jw with ⟨v, b, h1, m', c1, ly, c2, k, e, RR, G⟩ | ⟨E, b, h1, m', c1, ly, c2, k, k1, RR, G⟩
  · exact ⟨_, _, lwr_13 hi hL hLL hx ht c1 ly c2 k e, rfl, RR, G⟩
  · by_cases e2 : E = 2
    · subst e2
      exact ⟨_, _, lwt_13_2 hi hL hLL hx ht c1 ly c2 (k.trans rfl), rfl, RR, G⟩
    by_cases e0 : E = 0
    · subst e0
      exact ⟨_, _, lwt_13_0 hi hL hLL hx ht c1 ly c2 (k.trans rfl), rfl, RR, G⟩
    by_cases e1 : E = 1
    · subst e1
      exact ⟨_, _, lwt_13_1 hi hL hLL hx ht c1 ly c2 (k.trans rfl), rfl, RR, G⟩
    have k2 : (1 : Int) ≤ (if E = 2 then 1 else if E = 0 then 2 else if E = 1 then 3 else 0) := k1
    rw [if_neg e2, if_neg e0, if_neg e1] at k2
    exact absurd k2 (by decide)
theorem stl_14 (hi : 0 ≤ i) (hL : i + 8 ≤ L) (hLL : L ≤ 1000) (R : RelL h) (h6 : h.1 ≤ 900000) : StL (jd_403_b1294 L xs (some 0) (some 76) (some 152) i h) i h := by
  obtain ⟨hx, ht⟩ := RelL_t R
  obtain ⟨v, b, h1, m', c1, ly, c2, e, RR, G⟩ := gl_N (C := fun h => jd_154 0 h) (M := fun m => jd_298 m) (fun R => si_unreel R) R h6
  exact ⟨_, _, lwr_14 hi hL hLL hx ht c1 ly c2 e, rfl, RR, G⟩
theorem stl_15 (hi : 0 ≤ i) (hL : i + 8 ≤ L) (hLL : L ≤ 1000) (R : RelL h) (h6 : h.1 ≤ 900000) : StL (jd_403_b1307 L xs (some 0) (some 76) (some 152) i h) i h := by
  obtain ⟨hx, ht⟩ := RelL_t R
  rcases gl_I (C := fun h => jd_155 0 (jX xs i 1) h) (M := fun m => jd_300 (jX xs i 1) m) (fun R h6 => si_mk R (by omega) (okX _ _ _)) R h6 jw with ⟨v, b, h1, m', c1, ly, c2, k, e, RR, G⟩ | ⟨E, b, h1, m', c1, ly, c2, k, k1, RR, G⟩
  · exact ⟨_, _, lwr_15 hi hL hLL hx ht c1 ly c2 k e, rfl, RR, G⟩
  · by_cases e0 : E = 0
    · subst e0
      exact ⟨_, _, lwt_15_0 hi hL hLL hx ht c1 ly c2 (k.trans rfl), rfl, RR, G⟩
    by_cases e1 : E = 1
    · subst e1
      exact ⟨_, _, lwt_15_1 hi hL hLL hx ht c1 ly c2 (k.trans rfl), rfl, RR, G⟩
    have k2 : (1 : Int) ≤ (if E = 0 then 1 else if E = 1 then 2 else 0) := k1
    rw [if_neg e0, if_neg e1] at k2
    exact absurd k2 (by decide)
theorem stl_16 (hi : 0 ≤ i) (hL : i + 8 ≤ L) (hLL : L ≤ 1000) (R : RelL h) (h6 : h.1 ≤ 900000) : StL (jd_403_b1363 L xs (some 0) (some 76) (some 152) i h) i h := by
  obtain ⟨hx, ht⟩ := RelL_t R
  rcases gl_I (C := fun h => jd_156 0  h) (M := fun m => jd_310  m) (fun R h6 => si_read R (by omega)) R h6 jw with ⟨v, b, h1, m', c1, ly, c2, k, e, RR, G⟩ | ⟨E, b, h1, m', c1, ly, c2, k, k1, RR, G⟩
  · exact ⟨_, _, lwr_16 hi hL hLL hx ht c1 ly c2 k e, rfl, RR, G⟩
  · by_cases e1 : E = 1
    · subst e1
      exact ⟨_, _, lwt_16_1 hi hL hLL hx ht c1 ly c2 (k.trans rfl), rfl, RR, G⟩
    have k2 : (1 : Int) ≤ (if E = 1 then 1 else 0) := k1
    rw [if_neg e1] at k2
    exact absurd k2 (by decide)
theorem stl_17 (hi : 0 ≤ i) (hL : i + 8 ≤ L) (hLL : L ≤ 1000) (R : RelL h) (h6 : h.1 ≤ 900000) : StL (jd_403_b1407 L xs (some 0) (some 76) (some 152) i h) i h := by
  obtain ⟨hx, ht⟩ := RelL_t R
  rcases gl_I (C := fun h => jd_157 0 (jX xs i 1) h) (M := fun m => jd_312 (jX xs i 1) m) (fun R h6 => si_bytes R (by omega) (okX _ _ _)) R h6 jw with ⟨v, b, h1, m', c1, ly, c2, k, e, RR, G⟩ | ⟨E, b, h1, m', c1, ly, c2, k, k1, RR, G⟩
  · exact ⟨_, _, lwr_17 hi hL hLL hx ht c1 ly c2 k e, rfl, RR, G⟩
  · by_cases e2 : E = 2
    · subst e2
      exact ⟨_, _, lwt_17_2 hi hL hLL hx ht c1 ly c2 (k.trans rfl), rfl, RR, G⟩
    have k2 : (1 : Int) ≤ (if E = 2 then 1 else 0) := k1
    rw [if_neg e2] at k2
    exact absurd k2 (by decide)
theorem stl_18 (hi : 0 ≤ i) (hL : i + 8 ≤ L) (hLL : L ≤ 1000) (R : RelL h) (h6 : h.1 ≤ 900000) : StL (jd_403_b1463 L xs (some 0) (some 76) (some 152) i h) i h := by
  obtain ⟨hx, ht⟩ := RelL_t R
  rcases gl_I (C := fun h => jd_158 0 (jX xs i 1) (jX xs i 2) h) (M := fun m => jd_313 (jX xs i 1) (jX xs i 2) m) (fun R h6 => si_film R (by omega) (okX _ _ _) (okX _ _ _)) R h6 jw with ⟨v, b, h1, m', c1, ly, c2, k, e, RR, G⟩ | ⟨E, b, h1, m', c1, ly, c2, k, k1, RR, G⟩
  · exact ⟨_, _, lwr_18 hi hL hLL hx ht c1 ly c2 k e, rfl, RR, G⟩
  · by_cases e2 : E = 2
    · subst e2
      exact ⟨_, _, lwt_18_2 hi hL hLL hx ht c1 ly c2 (k.trans rfl), rfl, RR, G⟩
    by_cases e0 : E = 0
    · subst e0
      exact ⟨_, _, lwt_18_0 hi hL hLL hx ht c1 ly c2 (k.trans rfl), rfl, RR, G⟩
    have k2 : (1 : Int) ≤ (if E = 2 then 1 else if E = 0 then 2 else 0) := k1
    rw [if_neg e2, if_neg e0] at k2
    exact absurd k2 (by decide)
theorem stl_19 (hi : 0 ≤ i) (hL : i + 8 ≤ L) (hLL : L ≤ 1000) (R : RelL h) (h6 : h.1 ≤ 900000) : StL (jd_403_b1531 L xs (some 0) (some 76) (some 152) i h) i h := by
  obtain ⟨hx, ht⟩ := RelL_t R
  rcases gl_I (C := fun h => jd_159 0 (jX xs i 1) (jX xs i 2) (jX xs i 3) h) (M := fun m => jd_315 (jX xs i 1) (jX xs i 2) (jX xs i 3) m) (fun R h6 => si_coded R (by omega) (okX _ _ _) (okX _ _ _) (okX _ _ _)) R h6 jw with ⟨v, b, h1, m', c1, ly, c2, k, e, RR, G⟩ | ⟨E, b, h1, m', c1, ly, c2, k, k1, RR, G⟩
  · exact ⟨_, _, lwr_19 hi hL hLL hx ht c1 ly c2 k e, rfl, RR, G⟩
  · by_cases e2 : E = 2
    · subst e2
      exact ⟨_, _, lwt_19_2 hi hL hLL hx ht c1 ly c2 (k.trans rfl), rfl, RR, G⟩
    by_cases e0 : E = 0
    · subst e0
      exact ⟨_, _, lwt_19_0 hi hL hLL hx ht c1 ly c2 (k.trans rfl), rfl, RR, G⟩
    have k2 : (1 : Int) ≤ (if E = 2 then 1 else if E = 0 then 2 else 0) := k1
    rw [if_neg e2, if_neg e0] at k2
    exact absurd k2 (by decide)
theorem stl_20 (hi : 0 ≤ i) (hL : i + 8 ≤ L) (hLL : L ≤ 1000) (R : RelL h) (h6 : h.1 ≤ 900000) : StL (jd_403_b1611 L xs (some 0) (some 76) (some 152) i h) i h := by
  obtain ⟨hx, ht⟩ := RelL_t R
  rcases gl_I (C := fun h => jd_160 0 (jX xs i 1) (jX xs i 2) (jX xs i 3) (jX xs i 4) h) (M := fun m => jd_317 (jX xs i 1) (jX xs i 2) (jX xs i 3) (jX xs i 4) m) (fun R h6 => si_part R (by omega) (okX _ _ _) (okX _ _ _) (okX _ _ _) (okX _ _ _)) R h6 jw with ⟨v, b, h1, m', c1, ly, c2, k, e, RR, G⟩ | ⟨E, b, h1, m', c1, ly, c2, k, k1, RR, G⟩
  · exact ⟨_, _, lwr_20 hi hL hLL hx ht c1 ly c2 k e, rfl, RR, G⟩
  · by_cases e2 : E = 2
    · subst e2
      exact ⟨_, _, lwt_20_2 hi hL hLL hx ht c1 ly c2 (k.trans rfl), rfl, RR, G⟩
    by_cases e0 : E = 0
    · subst e0
      exact ⟨_, _, lwt_20_0 hi hL hLL hx ht c1 ly c2 (k.trans rfl), rfl, RR, G⟩
    have k2 : (1 : Int) ≤ (if E = 2 then 1 else if E = 0 then 2 else 0) := k1
    rw [if_neg e2, if_neg e0] at k2
    exact absurd k2 (by decide)
theorem stl_21 (hi : 0 ≤ i) (hL : i + 8 ≤ L) (hLL : L ≤ 1000) (R : RelL h) (h6 : h.1 ≤ 900000) : StL (jd_403_b1703 L xs (some 0) (some 76) (some 152) i h) i h := by
  obtain ⟨hx, ht⟩ := RelL_t R
  rcases gl_I (C := fun h => jd_161 0 (jX xs i 1) (jX xs i 2) (jX xs i 3) (jX xs i 4) (jX xs i 5) h) (M := fun m => jd_321 (jX xs i 1) (jX xs i 2) (jX xs i 3) (jX xs i 4) (jX xs i 5) m) (fun R h6 => si_look R (by omega) (okX _ _ _) (okX _ _ _) (okX _ _ _) (okX _ _ _) (okX _ _ _)) R h6 jw with ⟨v, b, h1, m', c1, ly, c2, k, e, RR, G⟩ | ⟨E, b, h1, m', c1, ly, c2, k, k1, RR, G⟩
  · exact ⟨_, _, lwr_21 hi hL hLL hx ht c1 ly c2 k e, rfl, RR, G⟩
  · by_cases e2 : E = 2
    · subst e2
      exact ⟨_, _, lwt_21_2 hi hL hLL hx ht c1 ly c2 (k.trans rfl), rfl, RR, G⟩
    have k2 : (1 : Int) ≤ (if E = 2 then 1 else 0) := k1
    rw [if_neg e2] at k2
    exact absurd k2 (by decide)
theorem stl_22 (hi : 0 ≤ i) (hL : i + 8 ≤ L) (hLL : L ≤ 1000) (R : RelL h) (h6 : h.1 ≤ 900000) : StL (jd_403_b1807 L xs (some 0) (some 76) (some 152) i h) i h := by
  obtain ⟨hx, ht⟩ := RelL_t R
  rcases gl_I (C := fun h => jd_162 0 (jX xs i 1) (jX xs i 2) (jX xs i 3) (jX xs i 4) (jX xs i 5) h) (M := fun m => jd_322 (jX xs i 1) (jX xs i 2) (jX xs i 3) (jX xs i 4) (jX xs i 5) m) (fun R h6 => si_mended R (by omega) (okX _ _ _) (okX _ _ _) (okX _ _ _) (okX _ _ _) (okX _ _ _)) R h6 (fun v => if jw v = 0 then 0 else 1) with ⟨v, b, h1, m', c1, ly, c2, k, e, RR, G⟩ | ⟨E, b, h1, m', c1, ly, c2, k, k1, RR, G⟩
  · exact ⟨_, _, lwr_22 hi hL hLL hx ht c1 ly c2 k (by rw [e]), rfl, RR, G⟩
  · by_cases e2 : E = 2
    · subst e2
      exact ⟨_, _, lwt_22_2 hi hL hLL hx ht c1 ly c2 (k.trans rfl), rfl, RR, G⟩
    have k2 : (1 : Int) ≤ (if E = 2 then 1 else 0) := k1
    rw [if_neg e2] at k2
    exact absurd k2 (by decide)
theorem stl_23 (hi : 0 ≤ i) (hL : i + 8 ≤ L) (hLL : L ≤ 1000) (R : RelL h) (h6 : h.1 ≤ 900000) : StL (jd_403_b1918 L xs (some 0) (some 76) (some 152) i h) i h := by
  obtain ⟨hx, ht⟩ := RelL_t R
  rcases gl_I (C := fun h => jd_163 0 (jX xs i 1) (jX xs i 2) h) (M := fun m => jd_323 (jX xs i 1) (jX xs i 2) m) (fun R h6 => si_shown R (by omega) (okX _ _ _) (okX _ _ _)) R h6 jw with ⟨v, b, h1, m', c1, ly, c2, k, e, RR, G⟩ | ⟨E, b, h1, m', c1, ly, c2, k, k1, RR, G⟩
  · exact ⟨_, _, lwr_23 hi hL hLL hx ht c1 ly c2 k e, rfl, RR, G⟩
  · by_cases e2 : E = 2
    · subst e2
      exact ⟨_, _, lwt_23_2 hi hL hLL hx ht c1 ly c2 (k.trans rfl), rfl, RR, G⟩
    by_cases e1 : E = 1
    · subst e1
      exact ⟨_, _, lwt_23_1 hi hL hLL hx ht c1 ly c2 (k.trans rfl), rfl, RR, G⟩
    have k2 : (1 : Int) ≤ (if E = 2 then 1 else if E = 1 then 2 else 0) := k1
    rw [if_neg e2, if_neg e1] at k2
    exact absurd k2 (by decide)
theorem stl_24 (hi : 0 ≤ i) (hL : i + 8 ≤ L) (hLL : L ≤ 1000) (R : RelL h) (h6 : h.1 ≤ 900000) : StL (jd_403_b1986 L xs (some 0) (some 76) (some 152) i h) i h := by
  obtain ⟨hx, ht⟩ := RelL_t R
  rcases gl_I (C := fun h => jd_164 0 (jX xs i 1) (jX xs i 2) (jX xs i 3) (jX xs i 4) h) (M := fun m => jd_324 (jX xs i 1) (jX xs i 2) (jX xs i 3) (jX xs i 4) m) (fun R h6 => si_buffer R (by omega) (okX _ _ _) (okX _ _ _) (okX _ _ _) (okX _ _ _)) R h6 jw with ⟨v, b, h1, m', c1, ly, c2, k, e, RR, G⟩ | ⟨E, b, h1, m', c1, ly, c2, k, k1, RR, G⟩
  · exact ⟨_, _, lwr_24 hi hL hLL hx ht c1 ly c2 k e, rfl, RR, G⟩
  · by_cases e2 : E = 2
    · subst e2
      exact ⟨_, _, lwt_24_2 hi hL hLL hx ht c1 ly c2 (k.trans rfl), rfl, RR, G⟩
    by_cases e0 : E = 0
    · subst e0
      exact ⟨_, _, lwt_24_0 hi hL hLL hx ht c1 ly c2 (k.trans rfl), rfl, RR, G⟩
    have k2 : (1 : Int) ≤ (if E = 2 then 1 else if E = 0 then 2 else 0) := k1
    rw [if_neg e2, if_neg e0] at k2
    exact absurd k2 (by decide)
theorem stl_25 (hi : 0 ≤ i) (hL : i + 8 ≤ L) (hLL : L ≤ 1000) (R : RelL h) (h6 : h.1 ≤ 900000) : StL (jd_403_b2078 L xs (some 0) (some 76) (some 152) i h) i h := by
  obtain ⟨hx, ht⟩ := RelL_t R
  rcases gl_I (C := fun h => jd_165 0 (jX xs i 1) (jX xs i 2) (jX xs i 3) h) (M := fun m => jd_325 (jX xs i 1) (jX xs i 2) (jX xs i 3) m) (fun R h6 => si_row R (by omega) (okX _ _ _) (okX _ _ _) (okX _ _ _)) R h6 jw with ⟨v, b, h1, m', c1, ly, c2, k, e, RR, G⟩ | ⟨E, b, h1, m', c1, ly, c2, k, k1, RR, G⟩
  · exact ⟨_, _, lwr_25 hi hL hLL hx ht c1 ly c2 k e, rfl, RR, G⟩
  · by_cases e2 : E = 2
    · subst e2
      exact ⟨_, _, lwt_25_2 hi hL hLL hx ht c1 ly c2 (k.trans rfl), rfl, RR, G⟩
    by_cases e0 : E = 0
    · subst e0
      exact ⟨_, _, lwt_25_0 hi hL hLL hx ht c1 ly c2 (k.trans rfl), rfl, RR, G⟩
    by_cases e1 : E = 1
    · subst e1
      exact ⟨_, _, lwt_25_1 hi hL hLL hx ht c1 ly c2 (k.trans rfl), rfl, RR, G⟩
    have k2 : (1 : Int) ≤ (if E = 2 then 1 else if E = 0 then 2 else if E = 1 then 3 else 0) := k1
    rw [if_neg e2, if_neg e0, if_neg e1] at k2
    exact absurd k2 (by decide)
theorem stl_26 (hi : 0 ≤ i) (hL : i + 8 ≤ L) (hLL : L ≤ 1000) (R : RelL h) (h6 : h.1 ≤ 900000) : StL (jd_403_b2158 L xs (some 0) (some 76) (some 152) i h) i h := by
  obtain ⟨hx, ht⟩ := RelL_t R
  rcases gl_I (C := fun h => jd_166 0  h) (M := fun m => jd_330  m) (fun R h6 => si_cut R (by omega)) R h6 jw with ⟨v, b, h1, m', c1, ly, c2, k, e, RR, G⟩ | ⟨E, b, h1, m', c1, ly, c2, k, k1, RR, G⟩
  · exact ⟨_, _, lwr_26 hi hL hLL hx ht c1 ly c2 k e, rfl, RR, G⟩
  · by_cases e1 : E = 1
    · subst e1
      exact ⟨_, _, lwt_26_1 hi hL hLL hx ht c1 ly c2 (k.trans rfl), rfl, RR, G⟩
    have k2 : (1 : Int) ≤ (if E = 1 then 1 else 0) := k1
    rw [if_neg e1] at k2
    exact absurd k2 (by decide)
theorem stl_27 (hi : 0 ≤ i) (hL : i + 8 ≤ L) (hLL : L ≤ 1000) (R : RelL h) (h6 : h.1 ≤ 900000) : StL (jd_403_b2202 L xs (some 0) (some 76) (some 152) i h) i h := by
  obtain ⟨hx, ht⟩ := RelL_t R
  rcases gl_I (C := fun h => jd_167 0 (jX xs i 1) (jX xs i 2) h) (M := fun m => jd_331 (jX xs i 1) (jX xs i 2) m) (fun R h6 => si_kept R (by omega) (okX _ _ _) (okX _ _ _)) R h6 (fun v => if jw v = 0 then 0 else 1) with ⟨v, b, h1, m', c1, ly, c2, k, e, RR, G⟩ | ⟨E, b, h1, m', c1, ly, c2, k, k1, RR, G⟩
  · exact ⟨_, _, lwr_27 hi hL hLL hx ht c1 ly c2 k (by rw [e]), rfl, RR, G⟩
  · by_cases e2 : E = 2
    · subst e2
      exact ⟨_, _, lwt_27_2 hi hL hLL hx ht c1 ly c2 (k.trans rfl), rfl, RR, G⟩
    have k2 : (1 : Int) ≤ (if E = 2 then 1 else 0) := k1
    rw [if_neg e2] at k2
    exact absurd k2 (by decide)
theorem stl_28 (hi : 0 ≤ i) (hL : i + 8 ≤ L) (hLL : L ≤ 1000) (R : RelL h) (h6 : h.1 ≤ 900000) : StL (jd_403_b2277 L xs (some 0) (some 76) (some 152) i h) i h := by
  obtain ⟨hx, ht⟩ := RelL_t R
  obtain ⟨v, b, h1, m', c1, ly, c2, e, RR, G⟩ := gl_N (C := fun h => jd_168 0 h) (M := fun m => jd_332 m) (fun R => si_forget R) R h6
  exact ⟨_, _, lwr_28 hi hL hLL hx ht c1 ly c2 e, rfl, RR, G⟩
theorem stl_29 (hi : 0 ≤ i) (hL : i + 8 ≤ L) (hLL : L ≤ 1000) (R : RelL h) (h6 : h.1 ≤ 900000) : StL (jd_403_b2290 L xs (some 0) (some 76) (some 152) i h) i h := by
  obtain ⟨hx, ht⟩ := RelL_t R
  rcases gl_I (C := fun h => jd_169 0  h) (M := fun m => jd_344  m) (fun R h6 => si_filter R (by omega)) R h6 jw with ⟨v, b, h1, m', c1, ly, c2, k, e, RR, G⟩ | ⟨E, b, h1, m', c1, ly, c2, k, k1, RR, G⟩
  · exact ⟨_, _, lwr_29 hi hL hLL hx ht c1 ly c2 k e, rfl, RR, G⟩
  · by_cases e1 : E = 1
    · subst e1
      exact ⟨_, _, lwt_29_1 hi hL hLL hx ht c1 ly c2 (k.trans rfl), rfl, RR, G⟩
    have k2 : (1 : Int) ≤ (if E = 1 then 1 else 0) := k1
    rw [if_neg e1] at k2
    exact absurd k2 (by decide)
theorem stl_30 (hi : 0 ≤ i) (hL : i + 8 ≤ L) (hLL : L ≤ 1000) (R : RelL h) (h6 : h.1 ≤ 900000) : StL (jd_403_b2334 L xs (some 0) (some 76) (some 152) i h) i h := by
  obtain ⟨hx, ht⟩ := RelL_t R
  rcases gl_J (C := fun h => jd_170 0 (jX xs i 1) (jX xs i 2) (jX xs i 3) h) (M := fun m => jd_347 (jX xs i 1) (jX xs i 2) (jX xs i 3) m) (fun R h6 => si_apply R (by omega) (okX _ _ _) (okX _ _ _)) R h6 with ⟨v, b, h1, h2, m', c1, ly, c2, k, e, ea, RR, G⟩ | ⟨E, b, h1, m', c1, ly, c2, k, k1, RR, G⟩
  · exact ⟨_, h2, lwr_30 hi hL hLL hx ht c1 ly c2 k e, ea, RR, G⟩
  · by_cases e2 : E = 2
    · subst e2
      exact ⟨_, _, lwt_30_2 hi hL hLL hx ht c1 ly c2 (k.trans rfl), rfl, RR, G⟩
    by_cases e1 : E = 1
    · subst e1
      exact ⟨_, _, lwt_30_1 hi hL hLL hx ht c1 ly c2 (k.trans rfl), rfl, RR, G⟩
    have k2 : (1 : Int) ≤ (if E = 2 then 1 else if E = 1 then 2 else 0) := k1
    rw [if_neg e2, if_neg e1] at k2
    exact absurd k2 (by decide)
theorem stl_31 (hi : 0 ≤ i) (hL : i + 8 ≤ L) (hLL : L ≤ 1000) (R : RelL h) (h6 : h.1 ≤ 900000) : StL (jd_403_b2414 L xs (some 0) (some 76) (some 152) i h) i h := by
  obtain ⟨hx, ht⟩ := RelL_t R
  rcases gl_I (C := fun h => jd_171 0 (jX xs i 1) (jX xs i 2) (jX xs i 3) h) (M := fun m => jd_348 (jX xs i 1) (jX xs i 2) (jX xs i 3) m) (fun R h6 => si_distance R (by omega) (okX _ _ _) (okX _ _ _) (okX _ _ _)) R h6 jw with ⟨v, b, h1, m', c1, ly, c2, k, e, RR, G⟩ | ⟨E, b, h1, m', c1, ly, c2, k, k1, RR, G⟩
  · exact ⟨_, _, lwr_31 hi hL hLL hx ht c1 ly c2 k e, rfl, RR, G⟩
  · by_cases e2 : E = 2
    · subst e2
      exact ⟨_, _, lwt_31_2 hi hL hLL hx ht c1 ly c2 (k.trans rfl), rfl, RR, G⟩
    by_cases e0 : E = 0
    · subst e0
      exact ⟨_, _, lwt_31_0 hi hL hLL hx ht c1 ly c2 (k.trans rfl), rfl, RR, G⟩
    have k2 : (1 : Int) ≤ (if E = 2 then 1 else if E = 0 then 2 else 0) := k1
    rw [if_neg e2, if_neg e0] at k2
    exact absurd k2 (by decide)
theorem stl_32 (hi : 0 ≤ i) (hL : i + 8 ≤ L) (hLL : L ≤ 1000) (R : RelL h) (h6 : h.1 ≤ 900000) : StL (jd_403_b2494 L xs (some 0) (some 76) (some 152) i h) i h := by
  obtain ⟨hx, ht⟩ := RelL_t R
  rcases gl_I (C := fun h => jd_172 0 (jX xs i 1) (jX xs i 2) h) (M := fun m => jd_350 (jX xs i 1) (jX xs i 2) m) (fun R h6 => si_first R (by omega) (okX _ _ _) (okX _ _ _)) R h6 (fun v => if jw v = 0 then 0 else 1) with ⟨v, b, h1, m', c1, ly, c2, k, e, RR, G⟩ | ⟨E, b, h1, m', c1, ly, c2, k, k1, RR, G⟩
  · exact ⟨_, _, lwr_32 hi hL hLL hx ht c1 ly c2 k (by rw [e]), rfl, RR, G⟩
  · by_cases e2 : E = 2
    · subst e2
      exact ⟨_, _, lwt_32_2 hi hL hLL hx ht c1 ly c2 (k.trans rfl), rfl, RR, G⟩
    have k2 : (1 : Int) ≤ (if E = 2 then 1 else 0) := k1
    rw [if_neg e2] at k2
    exact absurd k2 (by decide)
theorem stl_33 (hi : 0 ≤ i) (hL : i + 8 ≤ L) (hLL : L ≤ 1000) (R : RelL h) (h6 : h.1 ≤ 900000) : StL (jd_403_b2569 L xs (some 0) (some 76) (some 152) i h) i h := by
  obtain ⟨hx, ht⟩ := RelL_t R
  rcases gl_I (C := fun h => jd_173 0 (jX xs i 1) (jX xs i 2) h) (M := fun m => jd_352 (jX xs i 1) (jX xs i 2) m) (fun R h6 => si_twin R (by omega) (okX _ _ _) (okX _ _ _)) R h6 jw with ⟨v, b, h1, m', c1, ly, c2, k, e, RR, G⟩ | ⟨E, b, h1, m', c1, ly, c2, k, k1, RR, G⟩
  · exact ⟨_, _, lwr_33 hi hL hLL hx ht c1 ly c2 k e, rfl, RR, G⟩
  · by_cases e2 : E = 2
    · subst e2
      exact ⟨_, _, lwt_33_2 hi hL hLL hx ht c1 ly c2 (k.trans rfl), rfl, RR, G⟩
    have k2 : (1 : Int) ≤ (if E = 2 then 1 else 0) := k1
    rw [if_neg e2] at k2
    exact absurd k2 (by decide)
theorem stl_34 (hi : 0 ≤ i) (hL : i + 8 ≤ L) (hLL : L ≤ 1000) (R : RelL h) (h6 : h.1 ≤ 900000) : StL (jd_403_b2637 L xs (some 0) (some 76) (some 152) i h) i h := by
  obtain ⟨hx, ht⟩ := RelL_t R
  rcases gl_I (C := fun h => jd_174 0 (jX xs i 1) (jX xs i 2) (jX xs i 3) (jX xs i 4) h) (M := fun m => jd_354 (jX xs i 1) (jX xs i 2) (jX xs i 3) (jX xs i 4) m) (fun R h6 => si_movement R (by omega) (okX _ _ _) (okX _ _ _) (okX _ _ _) (okX _ _ _)) R h6 jw with ⟨v, b, h1, m', c1, ly, c2, k, e, RR, G⟩ | ⟨E, b, h1, m', c1, ly, c2, k, k1, RR, G⟩
  · exact ⟨_, _, lwr_34 hi hL hLL hx ht c1 ly c2 k e, rfl, RR, G⟩
  · by_cases e2 : E = 2
    · subst e2
      exact ⟨_, _, lwt_34_2 hi hL hLL hx ht c1 ly c2 (k.trans rfl), rfl, RR, G⟩
    by_cases e0 : E = 0
    · subst e0
      exact ⟨_, _, lwt_34_0 hi hL hLL hx ht c1 ly c2 (k.trans rfl), rfl, RR, G⟩
    have k2 : (1 : Int) ≤ (if E = 2 then 1 else if E = 0 then 2 else 0) := k1
    rw [if_neg e2, if_neg e0] at k2
    exact absurd k2 (by decide)
theorem stl_35 (hi : 0 ≤ i) (hL : i + 8 ≤ L) (hLL : L ≤ 1000) (R : RelL h) (h6 : h.1 ≤ 900000) : StL (jd_403_b2729 L xs (some 0) (some 76) (some 152) i h) i h := by
  obtain ⟨hx, ht⟩ := RelL_t R
  rcases gl_V (C := fun h => jd_175 0 (jX xs i 1) (jX xs i 2) (jX xs i 3) (jX xs i 4) h) (M := fun m => jd_356 (jX xs i 1) (jX xs i 2) (jX xs i 3) (jX xs i 4) m) (fun R h6 => si_play R (by omega) (okX _ _ _) (okX _ _ _) (okX _ _ _) (okX _ _ _)) R h6 with ⟨h1, m', c1, ly, c2, k, RR, G⟩ | ⟨E, h1, m', c1, ly, c2, k, k1, RR, G⟩
  · exact ⟨_, _, lwr_35 (b := 0) hi hL hLL hx ht c1 ly c2 k, rfl, RR, G⟩
  · by_cases e2 : E = 2
    · subst e2
      exact ⟨_, _, lwt_35_2 (b := 0) hi hL hLL hx ht c1 ly c2 (k.trans rfl), rfl, RR, G⟩
    by_cases e0 : E = 0
    · subst e0
      exact ⟨_, _, lwt_35_0 (b := 0) hi hL hLL hx ht c1 ly c2 (k.trans rfl), rfl, RR, G⟩
    have k2 : (1 : Int) ≤ (if E = 2 then 1 else if E = 0 then 2 else 0) := k1
    rw [if_neg e2, if_neg e0] at k2
    exact absurd k2 (by decide)
theorem stl_36 (hi : 0 ≤ i) (hL : i + 8 ≤ L) (hLL : L ≤ 1000) (R : RelL h) (h6 : h.1 ≤ 900000) : StL (jd_403_b2801 L xs (some 0) (some 76) (some 152) i h) i h := by
  obtain ⟨hx, ht⟩ := RelL_t R
  rcases gl_I (C := fun h => jd_176 0 (jX xs i 1) h) (M := fun m => jd_359 (jX xs i 1) m) (fun R h6 => si_tick R (by omega) (okX _ _ _)) R h6 jw with ⟨v, b, h1, m', c1, ly, c2, k, e, RR, G⟩ | ⟨E, b, h1, m', c1, ly, c2, k, k1, RR, G⟩
  · exact ⟨_, _, lwr_36 hi hL hLL hx ht c1 ly c2 k e, rfl, RR, G⟩
  · by_cases e2 : E = 2
    · subst e2
      exact ⟨_, _, lwt_36_2 hi hL hLL hx ht c1 ly c2 (k.trans rfl), rfl, RR, G⟩
    by_cases e1 : E = 1
    · subst e1
      exact ⟨_, _, lwt_36_1 hi hL hLL hx ht c1 ly c2 (k.trans rfl), rfl, RR, G⟩
    have k2 : (1 : Int) ≤ (if E = 2 then 1 else if E = 1 then 2 else 0) := k1
    rw [if_neg e2, if_neg e1] at k2
    exact absurd k2 (by decide)
theorem stl_37 (hi : 0 ≤ i) (hL : i + 8 ≤ L) (hLL : L ≤ 1000) (R : RelL h) (h6 : h.1 ≤ 900000) : StL (jd_403_b2857 L xs (some 0) (some 76) (some 152) i h) i h := by
  obtain ⟨hx, ht⟩ := RelL_t R
  rcases gl_V (C := fun h => jd_177 0 (jX xs i 1) (jX xs i 2) h) (M := fun m => jd_360 (jX xs i 1) (jX xs i 2) m) (fun R h6 => si_lose R (by omega) (okX _ _ _)) R h6 with ⟨h1, m', c1, ly, c2, k, RR, G⟩ | ⟨E, h1, m', c1, ly, c2, k, k1, RR, G⟩
  · exact ⟨_, _, lwr_37 (b := 0) hi hL hLL hx ht c1 ly c2 k, rfl, RR, G⟩
  · by_cases e2 : E = 2
    · subst e2
      exact ⟨_, _, lwt_37_2 (b := 0) hi hL hLL hx ht c1 ly c2 (k.trans rfl), rfl, RR, G⟩
    by_cases e1 : E = 1
    · subst e1
      exact ⟨_, _, lwt_37_1 (b := 0) hi hL hLL hx ht c1 ly c2 (k.trans rfl), rfl, RR, G⟩
    have k2 : (1 : Int) ≤ (if E = 2 then 1 else if E = 1 then 2 else 0) := k1
    rw [if_neg e2, if_neg e1] at k2
    exact absurd k2 (by decide)
theorem stl_38 (hi : 0 ≤ i) (hL : i + 8 ≤ L) (hLL : L ≤ 1000) (R : RelL h) (h6 : h.1 ≤ 900000) : StL (jd_403_b2905 L xs (some 0) (some 76) (some 152) i h) i h := by
  obtain ⟨hx, ht⟩ := RelL_t R
  rcases gl_V (C := fun h => jd_178 0 (jX xs i 1) (jX xs i 2) h) (M := fun m => jd_361 (jX xs i 1) (jX xs i 2) m) (fun R h6 => si_seek R (by omega) (okX _ _ _) (okX _ _ _)) R h6 with ⟨h1, m', c1, ly, c2, k, RR, G⟩ | ⟨E, h1, m', c1, ly, c2, k, k1, RR, G⟩
  · exact ⟨_, _, lwr_38 (b := 0) hi hL hLL hx ht c1 ly c2 k, rfl, RR, G⟩
  · by_cases e2 : E = 2
    · subst e2
      exact ⟨_, _, lwt_38_2 (b := 0) hi hL hLL hx ht c1 ly c2 (k.trans rfl), rfl, RR, G⟩
    by_cases e1 : E = 1
    · subst e1
      exact ⟨_, _, lwt_38_1 (b := 0) hi hL hLL hx ht c1 ly c2 (k.trans rfl), rfl, RR, G⟩
    have k2 : (1 : Int) ≤ (if E = 2 then 1 else if E = 1 then 2 else 0) := k1
    rw [if_neg e2, if_neg e1] at k2
    exact absurd k2 (by decide)
theorem stl_39 (hi : 0 ≤ i) (hL : i + 8 ≤ L) (hLL : L ≤ 1000) (R : RelL h) (h6 : h.1 ≤ 900000) : StL (jd_403_b2953 L xs (some 0) (some 76) (some 152) i h) i h := by
  obtain ⟨hx, ht⟩ := RelL_t R
  rcases gl_I (C := fun h => jd_179 0 (jX xs i 1) (jX xs i 2) h) (M := fun m => jd_362 (jX xs i 1) (jX xs i 2) m) (fun R h6 => si_player R (by omega) (okX _ _ _) (okX _ _ _)) R h6 jw with ⟨v, b, h1, m', c1, ly, c2, k, e, RR, G⟩ | ⟨E, b, h1, m', c1, ly, c2, k, k1, RR, G⟩
  · exact ⟨_, _, lwr_39 hi hL hLL hx ht c1 ly c2 k e, rfl, RR, G⟩
  · by_cases e2 : E = 2
    · subst e2
      exact ⟨_, _, lwt_39_2 hi hL hLL hx ht c1 ly c2 (k.trans rfl), rfl, RR, G⟩
    by_cases e0 : E = 0
    · subst e0
      exact ⟨_, _, lwt_39_0 hi hL hLL hx ht c1 ly c2 (k.trans rfl), rfl, RR, G⟩
    by_cases e1 : E = 1
    · subst e1
      exact ⟨_, _, lwt_39_1 hi hL hLL hx ht c1 ly c2 (k.trans rfl), rfl, RR, G⟩
    have k2 : (1 : Int) ≤ (if E = 2 then 1 else if E = 0 then 2 else if E = 1 then 3 else 0) := k1
    rw [if_neg e2, if_neg e0, if_neg e1] at k2
    exact absurd k2 (by decide)
theorem stl_40 (hi : 0 ≤ i) (hL : i + 8 ≤ L) (hLL : L ≤ 1000) (R : RelL h) (h6 : h.1 ≤ 900000) : StL (jd_403_b3021 L xs (some 0) (some 76) (some 152) i h) i h := by
  obtain ⟨hx, ht⟩ := RelL_t R
  rcases gl_I (C := fun h => jd_180 0 (jX xs i 1) (jX xs i 2) (jX xs i 3) (jX xs i 4) h) (M := fun m => jd_363 (jX xs i 1) (jX xs i 2) (jX xs i 3) (jX xs i 4) m) (fun R h6 => si_frame R (by omega) (okX _ _ _) (okX _ _ _) (okX _ _ _) (okX _ _ _)) R h6 jw with ⟨v, b, h1, m', c1, ly, c2, k, e, RR, G⟩ | ⟨E, b, h1, m', c1, ly, c2, k, k1, RR, G⟩
  · exact ⟨_, _, lwr_40 hi hL hLL hx ht c1 ly c2 k e, rfl, RR, G⟩
  · by_cases e2 : E = 2
    · subst e2
      exact ⟨_, _, lwt_40_2 hi hL hLL hx ht c1 ly c2 (k.trans rfl), rfl, RR, G⟩
    by_cases e1 : E = 1
    · subst e1
      exact ⟨_, _, lwt_40_1 hi hL hLL hx ht c1 ly c2 (k.trans rfl), rfl, RR, G⟩
    have k2 : (1 : Int) ≤ (if E = 2 then 1 else if E = 1 then 2 else 0) := k1
    rw [if_neg e2, if_neg e1] at k2
    exact absurd k2 (by decide)
theorem stl_41 (hi : 0 ≤ i) (hL : i + 8 ≤ L) (hLL : L ≤ 1000) (R : RelL h) (h6 : h.1 ≤ 900000) : StL (jd_403_b3113 L xs (some 0) (some 76) (some 152) i h) i h := by
  obtain ⟨hx, ht⟩ := RelL_t R
  rcases gl_I (C := fun h => jd_181 0 (jX xs i 1) h) (M := fun m => jd_364 (jX xs i 1) m) (fun R h6 => si_count R (by omega) (okX _ _ _)) R h6 jw with ⟨v, b, h1, m', c1, ly, c2, k, e, RR, G⟩ | ⟨E, b, h1, m', c1, ly, c2, k, k1, RR, G⟩
  · exact ⟨_, _, lwr_41 hi hL hLL hx ht c1 ly c2 k e, rfl, RR, G⟩
  · by_cases e0 : E = 0
    · subst e0
      exact ⟨_, _, lwt_41_0 hi hL hLL hx ht c1 ly c2 (k.trans rfl), rfl, RR, G⟩
    have k2 : (1 : Int) ≤ (if E = 0 then 1 else 0) := k1
    rw [if_neg e0] at k2
    exact absurd k2 (by decide)
end Turns
