/-! one call on the fresh heap: all together -/
theorem jFm_mk {h : jH} {n : Nat} {x : jC} (hn : 152 < h.1) (H : jFm (jmf h)) : jFm (jmf (jmk h n x)) := by
  have e : ∀ a : Nat, a ≠ h.1 → jmf (jmk h n x) a = jmf h a := fun a ha => by
    show ji (jmk h n x) a = ji h a
    rw [jmk_i, if_neg ha]
  unfold jFm
  rw [e 76 (by omega), e 82 (by omega), e 141 (by omega)]
  exact H
theorem jFm_rf {h : jH} {s : Nat} {F : Int → Option Nat} (H : jFm (jmf h)) : jFm (jmf (jrf h s F)) := by
  have e : ∀ a : Nat, jmf (jrf h s F) a = jmf h a := fun a => jrf_i
  unfold jFm
  rw [e 76, e 82, e 141]
  exact H
def jok1 (q : Option ((Int × jH) ⊕ jH)) : Prop := ∃ h', q = some (.inl (0 + 8, h')) ∧ h'.1 ≤ 1000 ∧ h'.2.1 ≤ 700000
theorem jS_a : jLay jhS ∧ jFm (jmf jhS) ∧ jhS.1 ≤ 1000 ∧ jhS.2.1 ≤ 700000 := jLb_s jS_L
theorem jS_a0 : jLay (jth jhS 0) ∧ jFm (jmf (jth jhS 0)) ∧ (jth jhS 0).1 ≤ 1000 ∧ (jth jhS 0).2.1 ≤ 700000 := jLb_s jS_L0
theorem jS_a1 : jLay (jth jhS 1) ∧ jFm (jmf (jth jhS 1)) ∧ (jth jhS 1).1 ≤ 1000 ∧ (jth jhS 1).2.1 ≤ 700000 := jLb_s jS_L1
theorem jS_a2 : jLay (jth jhS 2) ∧ jFm (jmf (jth jhS 2)) ∧ (jth jhS 2).1 ≤ 1000 ∧ (jth jhS 2).2.1 ≤ 700000 := jLb_s jS_L2
theorem jhS_e0 : ji jhS 0 3 = 0 ∧ ji jhS 0 1 = 0 := by decide +kernel
theorem jhS_e1 : jr jhS 0 2 = some 2 ∧ jr jhS 0 4 = some 3 ∧ jr jhS 0 0 = some 1 := by decide +kernel
theorem jhS_e2 : jt jhS 2 = 1 ∧ jl jhS 2 = 4000 ∧ jt jhS 3 = 0 ∧ jl jhS 3 = 8 ∧ jt jhS 1 = 6 ∧ jl jhS 1 = 60 := by decide +kernel
theorem jhS_e3 : jr jhS 1 0 = none := by decide +kernel
theorem q_1 (xs : Nat → Int32) : jok1 (jd_403_b328 8 xs (some 0) (some 76) (some 152) 0 jhS) := by
  exact ⟨_, lwt_1_2 (by decide) (by decide) (by decide) jS_x jS_t0 (f_141 _ _ _ _ _ _ _) jS_a2.1 (g_215 jS_a2.2.1 _ _ _ _ _ _ _) jms_s, jS_a2.2.2.1, jS_a2.2.2.2⟩
theorem q_2 (xs : Nat → Int32) : jok1 (jd_403_b460 8 xs (some 0) (some 76) (some 152) 0 jhS) := by
  exact ⟨_, lwt_2_2 (b := 0) (by decide) (by decide) (by decide) jS_x jS_t0 (f_142 _ _ _ _) jS_a2.1 (g_216 jS_a2.2.1 _ _ _ _) jms_s, jS_a2.2.2.1, jS_a2.2.2.2⟩
theorem q_3 (xs : Nat → Int32) : jok1 (jd_403_b564 8 xs (some 0) (some 76) (some 152) 0 jhS) := by
  exact ⟨_, lwt_3_2 (by decide) (by decide) (by decide) jS_x jS_t0 (f_143 _ _ _) jS_a2.1 (g_217 jS_a2.2.1 _ _ _) jms_s, jS_a2.2.2.1, jS_a2.2.2.2⟩
theorem q_4 (xs : Nat → Int32) : jok1 (jd_403_b644 8 xs (some 0) (some 76) (some 152) 0 jhS) := by
  exact ⟨_, lwt_4_2 (by decide) (by decide) (by decide) jS_x jS_t0 (f_144 _ _ _ _ _) jS_a2.1 (g_219 jS_a2.2.1 _ _ _ _ _) jms_s, jS_a2.2.2.1, jS_a2.2.2.2⟩
theorem q_5 (xs : Nat → Int32) : jok1 (jd_403_b748 8 xs (some 0) (some 76) (some 152) 0 jhS) := by
  exact ⟨_, lwt_5_2 (by decide) (by decide) (by decide) jS_x jS_t0 (f_145 _ _ _ _) jS_a2.1 (g_220 jS_a2.2.1 _ _ _ _) jms_s, jS_a2.2.2.1, jS_a2.2.2.2⟩
theorem q_6 (xs : Nat → Int32) : jok1 (jd_403_b840 8 xs (some 0) (some 76) (some 152) 0 jhS) := by
  exact ⟨_, lwt_6_2 (by decide) (by decide) (by decide) jS_x jS_t0 (f_146 _ _) jS_a2.1 (g_221 jS_a2.2.1 _ _) jms_s, jS_a2.2.2.1, jS_a2.2.2.2⟩
theorem q_9 (xs : Nat → Int32) : jok1 (jd_403_b1064 8 xs (some 0) (some 76) (some 152) 0 jhS) := by
  exact ⟨_, lwt_9_2 (by decide) (by decide) (by decide) jS_x jS_t0 (f_149 _ _) jS_a2.1 (g_224 jS_a2.2.1 _ _) jms_s, jS_a2.2.2.1, jS_a2.2.2.2⟩
theorem q_13 (xs : Nat → Int32) : jok1 (jd_403_b1238 8 xs (some 0) (some 76) (some 152) 0 jhS) := by
  exact ⟨_, lwt_13_2 (by decide) (by decide) (by decide) jS_x jS_t0 (f_153 _) jS_a2.1 (g_297 jS_a2.2.1 _) jms_s, jS_a2.2.2.1, jS_a2.2.2.2⟩
theorem q_17 (xs : Nat → Int32) : jok1 (jd_403_b1407 8 xs (some 0) (some 76) (some 152) 0 jhS) := by
  exact ⟨_, lwt_17_2 (by decide) (by decide) (by decide) jS_x jS_t0 (f_157 _) jS_a2.1 (g_312 jS_a2.2.1 _) jms_s, jS_a2.2.2.1, jS_a2.2.2.2⟩
theorem q_18 (xs : Nat → Int32) : jok1 (jd_403_b1463 8 xs (some 0) (some 76) (some 152) 0 jhS) := by
  exact ⟨_, lwt_18_2 (by decide) (by decide) (by decide) jS_x jS_t0 (f_158 _ _) jS_a2.1 (g_313 jS_a2.2.1 _ _) jms_s, jS_a2.2.2.1, jS_a2.2.2.2⟩
theorem q_19 (xs : Nat → Int32) : jok1 (jd_403_b1531 8 xs (some 0) (some 76) (some 152) 0 jhS) := by
  exact ⟨_, lwt_19_2 (by decide) (by decide) (by decide) jS_x jS_t0 (f_159 _ _ _) jS_a2.1 (g_315 jS_a2.2.1 _ _ _) jms_s, jS_a2.2.2.1, jS_a2.2.2.2⟩
theorem q_20 (xs : Nat → Int32) : jok1 (jd_403_b1611 8 xs (some 0) (some 76) (some 152) 0 jhS) := by
  exact ⟨_, lwt_20_2 (by decide) (by decide) (by decide) jS_x jS_t0 (f_160 _ _ _ _) jS_a2.1 (g_317 jS_a2.2.1 _ _ _ _) jms_s, jS_a2.2.2.1, jS_a2.2.2.2⟩
theorem q_21 (xs : Nat → Int32) : jok1 (jd_403_b1703 8 xs (some 0) (some 76) (some 152) 0 jhS) := by
  exact ⟨_, lwt_21_2 (by decide) (by decide) (by decide) jS_x jS_t0 (f_161 _ _ _ _ _) jS_a2.1 (g_321 jS_a2.2.1 _ _ _ _ _) jms_s, jS_a2.2.2.1, jS_a2.2.2.2⟩
theorem q_22 (xs : Nat → Int32) : jok1 (jd_403_b1807 8 xs (some 0) (some 76) (some 152) 0 jhS) := by
  exact ⟨_, lwt_22_2 (by decide) (by decide) (by decide) jS_x jS_t0 (f_162 _ _ _ _ _) jS_a2.1 (g_322 jS_a2.2.1 _ _ _ _ _) jms_s, jS_a2.2.2.1, jS_a2.2.2.2⟩
theorem q_23 (xs : Nat → Int32) : jok1 (jd_403_b1918 8 xs (some 0) (some 76) (some 152) 0 jhS) := by
  exact ⟨_, lwt_23_2 (by decide) (by decide) (by decide) jS_x jS_t0 (f_163 _ _) jS_a2.1 (g_323 jS_a2.2.1 _ _) jms_s, jS_a2.2.2.1, jS_a2.2.2.2⟩
theorem q_24 (xs : Nat → Int32) : jok1 (jd_403_b1986 8 xs (some 0) (some 76) (some 152) 0 jhS) := by
  exact ⟨_, lwt_24_2 (by decide) (by decide) (by decide) jS_x jS_t0 (f_164 _ _ _ _) jS_a2.1 (g_324 jS_a2.2.1 _ _ _ _) jms_s, jS_a2.2.2.1, jS_a2.2.2.2⟩
theorem q_25 (xs : Nat → Int32) : jok1 (jd_403_b2078 8 xs (some 0) (some 76) (some 152) 0 jhS) := by
  exact ⟨_, lwt_25_2 (by decide) (by decide) (by decide) jS_x jS_t0 (f_165 _ _ _) jS_a2.1 (g_325 jS_a2.2.1 _ _ _) jms_s, jS_a2.2.2.1, jS_a2.2.2.2⟩
theorem q_27 (xs : Nat → Int32) : jok1 (jd_403_b2202 8 xs (some 0) (some 76) (some 152) 0 jhS) := by
  exact ⟨_, lwt_27_2 (by decide) (by decide) (by decide) jS_x jS_t0 (f_167 _ _) jS_a2.1 (g_331 jS_a2.2.1 _ _) jms_s, jS_a2.2.2.1, jS_a2.2.2.2⟩
theorem q_30 (xs : Nat → Int32) : jok1 (jd_403_b2334 8 xs (some 0) (some 76) (some 152) 0 jhS) := by
  exact ⟨_, lwt_30_2 (by decide) (by decide) (by decide) jS_x jS_t0 (f_170 _ _ _) jS_a2.1 (g_347 jS_a2.2.1 _ _ _) jms_s, jS_a2.2.2.1, jS_a2.2.2.2⟩
theorem q_31 (xs : Nat → Int32) : jok1 (jd_403_b2414 8 xs (some 0) (some 76) (some 152) 0 jhS) := by
  exact ⟨_, lwt_31_2 (by decide) (by decide) (by decide) jS_x jS_t0 (f_171 _ _ _) jS_a2.1 (g_348 jS_a2.2.1 _ _ _) jms_s, jS_a2.2.2.1, jS_a2.2.2.2⟩
theorem q_32 (xs : Nat → Int32) : jok1 (jd_403_b2494 8 xs (some 0) (some 76) (some 152) 0 jhS) := by
  exact ⟨_, lwt_32_2 (by decide) (by decide) (by decide) jS_x jS_t0 (f_172 _ _) jS_a2.1 (g_350 jS_a2.2.1 _ _) jms_s, jS_a2.2.2.1, jS_a2.2.2.2⟩
theorem q_33 (xs : Nat → Int32) : jok1 (jd_403_b2569 8 xs (some 0) (some 76) (some 152) 0 jhS) := by
  exact ⟨_, lwt_33_2 (by decide) (by decide) (by decide) jS_x jS_t0 (f_173 _ _) jS_a2.1 (g_352 jS_a2.2.1 _ _) jms_s, jS_a2.2.2.1, jS_a2.2.2.2⟩
theorem q_34 (xs : Nat → Int32) : jok1 (jd_403_b2637 8 xs (some 0) (some 76) (some 152) 0 jhS) := by
  exact ⟨_, lwt_34_2 (by decide) (by decide) (by decide) jS_x jS_t0 (f_174 _ _ _ _) jS_a2.1 (g_354 jS_a2.2.1 _ _ _ _) jms_s, jS_a2.2.2.1, jS_a2.2.2.2⟩
theorem q_35 (xs : Nat → Int32) : jok1 (jd_403_b2729 8 xs (some 0) (some 76) (some 152) 0 jhS) := by
  exact ⟨_, lwt_35_2 (b := 0) (by decide) (by decide) (by decide) jS_x jS_t0 (f_175 _ _ _ _) jS_a2.1 (g_356 jS_a2.2.1 _ _ _ _) jms_s, jS_a2.2.2.1, jS_a2.2.2.2⟩
theorem q_15 (xs : Nat → Int32) : jok1 (jd_403_b1307 8 xs (some 0) (some 76) (some 152) 0 jhS) := by
  exact ⟨_, lwt_15_0 (by decide) (by decide) (by decide) jS_x jS_t0 (f_155 _) jS_a0.1 (g_300 jS_a0.2.1 _) jms_s, jS_a0.2.2.1, jS_a0.2.2.2⟩
theorem q_36 (xs : Nat → Int32) : jok1 (jd_403_b2801 8 xs (some 0) (some 76) (some 152) 0 jhS) := by
  by_cases hp : 0 ≤ jw (jX xs 0 1) ∧ jw (jX xs 0 1) < 4
  · have e := f_176 (jX xs 0 1)
    rw [if_pos hp] at e
    have m := g_359 jS_a1.2.1 (jX xs 0 1)
    rw [if_pos hp] at m
    exact ⟨_, lwt_36_1 (by decide) (by decide) (by decide) jS_x jS_t0 e jS_a1.1 m jms_s, jS_a1.2.2.1, jS_a1.2.2.2⟩
  · have e := f_176 (jX xs 0 1)
    rw [if_neg hp] at e
    have m := g_359 jS_a2.2.1 (jX xs 0 1)
    rw [if_neg hp] at m
    exact ⟨_, lwt_36_2 (by decide) (by decide) (by decide) jS_x jS_t0 e jS_a2.1 m jms_s, jS_a2.2.2.1, jS_a2.2.2.2⟩
theorem q_37 (xs : Nat → Int32) : jok1 (jd_403_b2857 8 xs (some 0) (some 76) (some 152) 0 jhS) := by
  by_cases hp : 0 ≤ jw (jX xs 0 1) ∧ jw (jX xs 0 1) < 4
  · have e := f_177 (jX xs 0 1) (jX xs 0 2)
    rw [if_pos hp] at e
    have m := g_360 jS_a1.2.1 (jX xs 0 1) (jX xs 0 2)
    rw [if_pos hp] at m
    exact ⟨_, lwt_37_1 (b := 0) (by decide) (by decide) (by decide) jS_x jS_t0 e jS_a1.1 m jms_s, jS_a1.2.2.1, jS_a1.2.2.2⟩
  · have e := f_177 (jX xs 0 1) (jX xs 0 2)
    rw [if_neg hp] at e
    have m := g_360 jS_a2.2.1 (jX xs 0 1) (jX xs 0 2)
    rw [if_neg hp] at m
    exact ⟨_, lwt_37_2 (b := 0) (by decide) (by decide) (by decide) jS_x jS_t0 e jS_a2.1 m jms_s, jS_a2.2.2.1, jS_a2.2.2.2⟩
theorem q_38 (xs : Nat → Int32) : jok1 (jd_403_b2905 8 xs (some 0) (some 76) (some 152) 0 jhS) := by
  by_cases hp : 0 ≤ jw (jX xs 0 1) ∧ jw (jX xs 0 1) < 4
  · have e := f_178 (jX xs 0 1) (jX xs 0 2)
    rw [if_pos hp] at e
    have m := g_361 jS_a1.2.1 (jX xs 0 1) (jX xs 0 2)
    rw [if_pos hp] at m
    exact ⟨_, lwt_38_1 (b := 0) (by decide) (by decide) (by decide) jS_x jS_t0 e jS_a1.1 m jms_s, jS_a1.2.2.1, jS_a1.2.2.2⟩
  · have e := f_178 (jX xs 0 1) (jX xs 0 2)
    rw [if_neg hp] at e
    have m := g_361 jS_a2.2.1 (jX xs 0 1) (jX xs 0 2)
    rw [if_neg hp] at m
    exact ⟨_, lwt_38_2 (b := 0) (by decide) (by decide) (by decide) jS_x jS_t0 e jS_a2.1 m jms_s, jS_a2.2.2.1, jS_a2.2.2.2⟩
theorem q_39 (xs : Nat → Int32) : jok1 (jd_403_b2953 8 xs (some 0) (some 76) (some 152) 0 jhS) := by
  have e := f_179 (jX xs 0 1) (jX xs 0 2)
  unfold f_e179 at e
  by_cases hp : 0 ≤ jw (jX xs 0 1) ∧ jw (jX xs 0 1) < 4
  · rw [if_pos hp] at e
    by_cases hq : 0 ≤ jw (jX xs 0 2) ∧ jw (jX xs 0 2) ≤ 5
    · rw [if_pos hq] at e
      have m := g_362 jS_a1.2.1 (jX xs 0 1) (jX xs 0 2)
      rw [if_pos hp, if_pos hq] at m
      exact ⟨_, lwt_39_1 (by decide) (by decide) (by decide) jS_x jS_t0 e jS_a1.1 m jms_s, jS_a1.2.2.1, jS_a1.2.2.2⟩
    · rw [if_neg hq] at e
      have m := g_362 jS_a0.2.1 (jX xs 0 1) (jX xs 0 2)
      rw [if_pos hp, if_neg hq] at m
      exact ⟨_, lwt_39_0 (by decide) (by decide) (by decide) jS_x jS_t0 e jS_a0.1 m jms_s, jS_a0.2.2.1, jS_a0.2.2.2⟩
  · rw [if_neg hp] at e
    have m := g_362 jS_a2.2.1 (jX xs 0 1) (jX xs 0 2)
    rw [if_neg hp] at m
    exact ⟨_, lwt_39_2 (by decide) (by decide) (by decide) jS_x jS_t0 e jS_a2.1 m jms_s, jS_a2.2.2.1, jS_a2.2.2.2⟩
theorem q_40 (xs : Nat → Int32) : jok1 (jd_403_b3021 8 xs (some 0) (some 76) (some 152) 0 jhS) := by
  have e := f_180 (jX xs 0 1) (jX xs 0 2) (jX xs 0 3) (jX xs 0 4)
  unfold f_e180 at e
  by_cases hp : (0 ≤ jw (jX xs 0 1) ∧ jw (jX xs 0 1) < 4) ∧ 0 ≤ jw (jX xs 0 2) ∧ jw (jX xs 0 2) ≤ 2
  · rw [if_pos hp] at e
    obtain ⟨m', m, hk⟩ := g_363 jS_a1.2.1 (jX xs 0 1) (jX xs 0 2) (jX xs 0 3) (jX xs 0 4)
    rw [if_pos hp] at hk
    exact ⟨_, lwt_40_1 (by decide) (by decide) (by decide) jS_x jS_t0 e jS_a1.1 m hk, jS_a1.2.2.1, jS_a1.2.2.2⟩
  · rw [if_neg hp] at e
    obtain ⟨m', m, hk⟩ := g_363 jS_a2.2.1 (jX xs 0 1) (jX xs 0 2) (jX xs 0 3) (jX xs 0 4)
    rw [if_neg hp] at hk
    exact ⟨_, lwt_40_2 (by decide) (by decide) (by decide) jS_x jS_t0 e jS_a2.1 m hk, jS_a2.2.2.1, jS_a2.2.2.2⟩
theorem q_41 (xs : Nat → Int32) : jok1 (jd_403_b3113 8 xs (some 0) (some 76) (some 152) 0 jhS) := by
  by_cases hp : 0 ≤ jw (jX xs 0 1) ∧ jw (jX xs 0 1) ≤ 5
  · exact ⟨_, lwr_41 (by decide) (by decide) (by decide) jS_x jS_t0 (f_181 hp.1 hp.2) jS_a.1 (g_364 (jFm_of jS_a.2.1) hp.1 hp.2) jms_s rfl, jS_a.2.2.1, jS_a.2.2.2⟩
  · exact ⟨_, lwt_41_0 (by decide) (by decide) (by decide) jS_x jS_t0 (f_181n (by omega)) jS_a0.1 (g_364n jS_a0.2.1 (by omega)) jms_s, jS_a0.2.2.1, jS_a0.2.2.2⟩
theorem q_10 (xs : Nat → Int32) : jok1 (jd_403_b1132 8 xs (some 0) (some 76) (some 152) 0 jhS) := by
  exact ⟨_, lwr_10 (h1 := jhS) (by decide) (by decide) (by decide) jS_x jS_t0 (f_150 _) jS_a.1 (g_225 jS_a.2.1 _) rfl, jS_a.2.2.1, jS_a.2.2.2⟩
theorem q_11 (xs : Nat → Int32) : jok1 (jd_403_b1157 8 xs (some 0) (some 76) (some 152) 0 jhS) := by
  exact ⟨_, lwr_11 (by decide) (by decide) (by decide) jS_x jS_t0 f_151 (jLay_sf jS_a.1) (g_226 (jFm_sf (by decide) (by decide) (by decide) jS_a.2.1)) rfl, jS_a.2.2.1, jS_a.2.2.2⟩
theorem q_14 (xs : Nat → Int32) : jok1 (jd_403_b1294 8 xs (some 0) (some 76) (some 152) 0 jhS) := by
  exact ⟨_, lwr_14 (by decide) (by decide) (by decide) jS_x jS_t0 f_154 (jLay_sf jS_a.1) (g_298 (jFm_sf (by decide) (by decide) (by decide) jS_a.2.1)) rfl, jS_a.2.2.1, jS_a.2.2.2⟩
theorem q_7 (xs : Nat → Int32) : jok1 (jd_403_b908 8 xs (some 0) (some 76) (some 152) 0 jhS) := by
  by_cases hp : 0 ≤ jw (jX xs 0 1)
  · obtain ⟨m', m, hk⟩ := g_222 (jFm_of (w := jw 0) (jFm_sf (h := jhS) (s := 0) (f := jiu (ji jhS 0) 1 0) (by decide) (by decide) (by decide) jS_a.2.1)) hp
    exact ⟨_, lwr_7 (by decide) (by decide) (by decide) jS_x jS_t0 (f_147 hp) (jLay_sf jS_a.1) m hk rfl, jS_a.2.2.1, jS_a.2.2.2⟩
  · exact ⟨_, lwt_7_0 (by decide) (by decide) (by decide) jS_x jS_t0 (f_147n (by omega)) jS_a0.1 (g_222n jS_a0.2.1 (by omega)) jms_s, jS_a0.2.2.1, jS_a0.2.2.2⟩
theorem q_12 (xs : Nat → Int32) : jok1 (jd_403_b1170 8 xs (some 0) (some 76) (some 152) 0 jhS) := by
  have w0 := jX_w xs 0 1
  have w1 := jX_w xs 0 2
  by_cases hg : jgood (jX xs 0 1) (jX xs 0 2)
  · have e := c_152 (h := jhS) w0 w1 jS_x jS_6 jS_t0 jhS_e1.2.1 (by rw [jS_n]; decide) jhS_e2.2.2.1 jhS_e2.2.2.2.1 hg
    refine ⟨_, lwr_12 (by decide) (by decide) (by decide) jS_x jS_t0 e (jLay_sf jS_a.1) (m_296g w0 w1 hg) ?_ ?_, jS_a.2.2.1, jS_a.2.2.2⟩
    · rw [jms_a (by decide), jms_s]
    · show jw (ji (jof (jsf jhS 3 _) _) 82 (jX xs 0 1)) = _
      have s := jS_set (jX xs 0 1).toNat (by have := hg.2.1; omega)
      rw [Int.toNat_of_nonneg hg.1] at s
      unfold jof
      rw [jsf_in (by decide), jsf_in (by decide), s.1, s.2]
  · exact ⟨_, lwt_12_0 (by decide) (by decide) (by decide) jS_x jS_t0 (c_152n w0 w1 jS_6 hg) jS_a0.1 (m_296n w0 w1 hg) jms_s, jS_a0.2.2.1, jS_a0.2.2.2⟩
theorem q_8 (xs : Nat → Int32) : jok1 (jd_403_b964 8 xs (some 0) (some 76) (some 152) 0 jhS) := by
  have w1 := jX_w xs 0 3
  by_cases hg : 1 ≤ jX xs 0 3 ∧ jX xs 0 3 ≤ 8
  · have e := c_148 (h := jhS) (p0 := jlor (jlshl (jw (jX xs 0 1)) 32) (jland (jw (jX xs 0 2)) 4294967295)) jS_x jS_t0 jhS_e1.1 (by rw [jS_n]; decide) jhS_e2.1 jhS_e2.2.1 w1 hg.1 hg.2 (by rw [jhS_e0.1]; decide) (by rw [jhS_e0.1]; omega)
    have F : jFm (jmf (jof (jfd jhS (jlor (jlshl (jw (jX xs 0 1)) 32) (jland (jw (jX xs 0 2)) 4294967295)) (ji jhS 0 3) (jX xs 0 3)) (jw (ji jhS 0 3 + jX xs 0 3)))) := jFm_of (jFm_sf (by decide) (by decide) (by decide) (jFm_sf (by decide) (by decide) (by decide) jS_a.2.1))
    have z := jFm_5 F
    refine ⟨_, lwr_8 (by decide) (by decide) (by decide) jS_x jS_t0 e (jLay_sf (jLay_sf jS_a.1)) (m_223 w1 hg.1 hg.2 (by rw [z]; decide) (by rw [z]; omega)) ?_ ?_, jS_a.2.2.1, jS_a.2.2.2⟩
    · rw [jms_k (by decide)]
      unfold jfe
      rw [jmu_n (by decide), jms_s]
    · rw [z, jhS_e0.1]
  · exact ⟨_, lwt_8_0 (by decide) (by decide) (by decide) jS_x jS_t0 (c_148n w1 jS_6 (by omega)) jS_a0.1 (m_223n w1 (by omega)) jms_s, jS_a0.2.2.1, jS_a0.2.2.2⟩
theorem q_0 (xs : Nat → Int32) : jok1 (jd_403_b224 8 xs (some 0) (some 76) (some 152) 0 jhS) := by
  have w0 := jX_w xs 0 1
  have w1 := jX_w xs 0 2
  have w2 := jX_w xs 0 3
  have w3 := jX_w xs 0 4
  have w4 := jX_w xs 0 5
  by_cases hg : jbg (jX xs 0 1) (jX xs 0 2) (jX xs 0 3) (jX xs 0 4) (jX xs 0 5)
  · have h1 : 1 < jhS.1 := by rw [jS_n]; decide
    have e1 := c_194m (h := jhS) (c := 0) jS_x (by rw [jS_n]; decide) jS_t0 h1 jhS_e2.2.2.2.2.1 jhS_e2.2.2.2.2.2 jhS_e1.2.2 jhS_e0.2 (by decide) (by decide) jhS_e3
    have kt : jt (jnq jhS 0) 0 = 19 := by unfold jnq; rw [jrf_t, jnp_t jS_x]; exact jS_t0
    have k1 : (jnq jhS 0).1 = 155 := by show jhS.1 + 2 = 155; rw [jS_n]
    have e := c_140 w0 w1 w2 w3 w4 jS_x jS_t0 hg e1 (jnq_p h1) (by rw [k1]; decide) (by rw [k1]; decide) kt
    have ic : ji (jnq jhS 0) 0 1 = 0 := by
      unfold jnq
      rw [jrf_i, jnp_i jS_x]
      exact jhS_e0.2
    have n6 : jhS.1 < 1000000 := jS_6
    have L1 : jLay (jnq jhS 0) := jLay_rf (by decide) (jLay_rf (by rw [jS_n]; decide) (jLay_mk (show jhS.1 + 1 < 1000000 by rw [jS_n]; decide) (jLay_sf (jLay_mk n6 jS_a.1))))
    have F1 : jFm (jmf (jnq jhS 0)) := jFm_rf (jFm_rf (jFm_mk (show 152 < jhS.1 + 1 by rw [jS_n]; decide) (jFm_sf (by rw [jS_n]; decide) (by rw [jS_n]; decide) (by rw [jS_n]; decide) (jFm_mk (by rw [jS_n]; decide) jS_a.2.1))))
    have n7 : jhS.1 = 153 := jS_n
    have sf : ∀ {k : jH} {a : Nat} {f : Int → Int}, 153 ≤ a → jFm (jmf k) → jFm (jmf (jsf k a f)) := fun ha => jFm_sf (by omega) (by omega) (by omega)
    have F2 : jFm (jmf (jof (jsf (jblk (jnq jhS 0) jhS.1 (jhS.1 + 1) (jX xs 0 1) (jX xs 0 2) (jX xs 0 3) (jX xs 0 4) (jX xs 0 5)) 0 (jiu (ji (jnq jhS 0) 0) 1 (ji (jnq jhS 0) 0 1 + 1))) (jw (ji (jnq jhS 0) 0 1)))) := jFm_of (jFm_sf (by decide) (by decide) (by decide) (sf (by omega) (sf (by omega) (sf (by omega) (sf (by omega) F1)))))
    have L2 : jLay (jsf (jblk (jnq jhS 0) jhS.1 (jhS.1 + 1) (jX xs 0 1) (jX xs 0 2) (jX xs 0 3) (jX xs 0 4) (jX xs 0 5)) 0 (jiu (ji (jnq jhS 0) 0) 1 (ji (jnq jhS 0) 0 1 + 1))) := jLay_sf (jLay_sf (jLay_sf (jLay_sf (jLay_sf L1))))
    refine ⟨_, lwr_0 (by decide) (by decide) (by decide) jS_x jS_t0 e L2 (m_214 w0 w1 w2 w3 w4 hg (jFm_1 F2) (by decide) (by decide)) ?_ ?_, ?_, ?_⟩
    · rw [jms_k (by decide)]
      unfold jmb3 jmfl
      rw [jmu_n (by decide), jmu_n (by decide), jmu_n (by decide), jmu_n (by decide), jmu_n (by decide), jms_s]
    · rw [ic]
    · show (jnq jhS 0).1 ≤ 1000
      rw [k1]
      decide
    · show jhS.2.1 + 867 ≤ 700000
      rw [jS_s]
      decide
  · exact ⟨_, lwt_0_0 (by decide) (by decide) (by decide) jS_x jS_t0 (c_140n w0 w1 w2 w3 w4 jS_6 hg) jS_a0.1 (m_214n w0 w1 w2 w3 w4 hg) jms_s, jS_a0.2.2.1, jS_a0.2.2.2⟩
def jch (q : Option ((Int ⊕ Nat) × jH)) : jH := match q with
  | some x => x.2
  | none => jb0
def jdh (q : Option (Int × jH)) : jH := match q with
  | some x => x.2
  | none => jb0
def jMb (q : Option (Int × jM)) (b : Int) : Bool := match q with
  | some x => decide (x.1 = b) && decide (x.2 76 0 = 0)
  | none => false
theorem jMb_s {q : Option (Int × jM)} {b : Int} (e : jMb q b = true) : ∃ m', q = some (b, m') ∧ m' 76 0 = 0 := by
  cases q with
  | none => cases e
  | some x =>
    obtain ⟨y, m'⟩ := x
    replace e : (decide (y = b) && decide (m' 76 0 = 0)) = true := e
    rw [Bool.and_eq_true, decide_eq_true_eq, decide_eq_true_eq] at e
    exact ⟨m', by rw [e.1], e.2⟩
theorem g_x310 : jMb (jd_310 (jmf (jof (jch (jd_156 0 jhS)) (jw (-1))))) (-1) = true := by decide +kernel
theorem q_16 (xs : Nat → Int32) : jok1 (jd_403_b1363 8 xs (some 0) (some 76) (some 152) 0 jhS) := by
  obtain ⟨h1, e, hl⟩ := jCb_s f_156
  obtain ⟨m', m, hk⟩ := jMb_s g_x310
  rw [e] at m
  have a := jLb_s hl
  exact ⟨_, lwr_16 (by decide) (by decide) (by decide) jS_x jS_t0 e a.1 m hk rfl, a.2.2.1, a.2.2.2⟩
theorem g_x330 : jMb (jd_330 (jmf (jof (jch (jd_166 0 jhS)) (jw (-1))))) (-1) = true := by decide +kernel
theorem q_26 (xs : Nat → Int32) : jok1 (jd_403_b2158 8 xs (some 0) (some 76) (some 152) 0 jhS) := by
  obtain ⟨h1, e, hl⟩ := jCb_s f_166
  obtain ⟨m', m, hk⟩ := jMb_s g_x330
  rw [e] at m
  have a := jLb_s hl
  exact ⟨_, lwr_26 (by decide) (by decide) (by decide) jS_x jS_t0 e a.1 m hk rfl, a.2.2.1, a.2.2.2⟩
theorem g_x344 : jMb (jd_344 (jmf (jof (jch (jd_169 0 jhS)) (jw (-1))))) (-1) = true := by decide +kernel
theorem q_29 (xs : Nat → Int32) : jok1 (jd_403_b2290 8 xs (some 0) (some 76) (some 152) 0 jhS) := by
  obtain ⟨h1, e, hl⟩ := jCb_s f_169
  obtain ⟨m', m, hk⟩ := jMb_s g_x344
  rw [e] at m
  have a := jLb_s hl
  exact ⟨_, lwr_29 (by decide) (by decide) (by decide) jS_x jS_t0 e a.1 m hk rfl, a.2.2.1, a.2.2.2⟩
theorem g_x332 : jMb (jd_332 (jmf (jdh (jd_168 0 jhS)))) 0 = true := by decide +kernel
theorem q_28 (xs : Nat → Int32) : jok1 (jd_403_b2277 8 xs (some 0) (some 76) (some 152) 0 jhS) := by
  obtain ⟨h1, e, hl⟩ := jDb_s f_168
  obtain ⟨m', m, hk⟩ := jMb_s g_x332
  rw [e] at m
  have a := jLb_s hl
  exact ⟨_, lwr_28 (by decide) (by decide) (by decide) jS_x jS_t0 e a.1 m rfl, a.2.2.1, a.2.2.2⟩
