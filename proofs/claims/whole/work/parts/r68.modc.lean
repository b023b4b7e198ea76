theorem cd_260 {pc : Nat} {i : Instr × Nat} (h : mm_lk mm_c260 pc = some i) : mm_cd 260 pc = some i := h
theorem mt_260 : mm_MT 260 = (12, 4, some .int, 3, 0, []) := rfl
set_option maxRecDepth 100000 in
theorem jk_260_b21 {L : Nat} {xs : Nat → Int32} {b : jH} (hb : 152 ≤ b.1) (h6 : b.1 ≤ 1000000) {y0 : Int} {m : jM} {o : Int} (e : jd_260_b21 y0 m = some o) : ∀ lv : jL, ey (mm_xt L xs) 1 260 21 lv [jI y0] (jhm b m) (.inl (some (jcv (jI o)), jaH (jhm b m))) := by
  intro lv 
  unfold jd_260_b21 at e
  cases e
  exact ey_reti (cd_260 rfl) mt_260 rfl
set_option maxRecDepth 100000 in
theorem ok_260 {L : Nat} {xs : Nat → Int32} {b : jH} (hb : 152 ≤ b.1) (h6 : b.1 ≤ 1000000) {p0 : Int} {p1 : Int} {p2 : Int} {m : jM} {o : Int} (e : jd_260 p0 p1 p2 m = some o) : mm_Runs (mm_xt L xs) 2 260 ([jR (some 76), jI p0, jI p1, jI p2].map jcv) (jaH (jhm b m)) (.inl (some (jcv (jI o)), jaH (jhm b m))) := by
  refine ey_run0 _ mt_260 (jsl_s rfl) ?_
  unfold jd_260 at e
  refine ey_aload_n (cd_260 rfl) rfl ?_
  refine ey_iload_n (cd_260 rfl) rfl ?_
  obtain ⟨v1, e2, e⟩ := jbind e
  refine ey_cv (s0 := [jI p1, jR (some 76)]) (s1 := []) (st' := [jI v1]) (cd_260 rfl) mt_260 mt_245 rfl rfl rfl (jhm_is hb) rfl (jsml_s rfl) rfl (ok_245 hb h6 e2) ?_
  by_cases q3 : (jw v1) = 0
  · rw [if_pos q3] at e
    refine ey_yne (cd_260 rfl) rfl rfl (fun w => w q3) ?_
    refine ey_iconst (cd_260 rfl) ?_
    refine ey_goto (cd_260 rfl) rfl ?_
    exact jk_260_b21 hb h6 e (jlf (jla 0 [jR (some 76), jI p0, jI p1, jI p2])) 
  · rw [if_neg q3] at e
    refine ey_zne (cd_260 rfl) rfl rfl q3 ?_
    refine ey_aload_n (cd_260 rfl) rfl ?_
    refine ey_iload_n (cd_260 rfl) rfl ?_
    refine ey_iload_n (cd_260 rfl) rfl ?_
    refine ey_iconst (cd_260 rfl) ?_
    refine ey_isub (cd_260 rfl) ?_
    refine ey_iload_n (cd_260 rfl) rfl ?_
    obtain ⟨v4, e5, e⟩ := jbind e
    refine ey_cv (s0 := [jI p2, jI (p1 - 1), jI p0, jR (some 76)]) (s1 := []) (st' := [jI v4]) (cd_260 rfl) mt_260 mt_259 rfl rfl rfl (jhm_is hb) rfl (jsml_s rfl) rfl (ok_259 hb h6 e5) ?_
    exact jk_260_b21 hb h6 e (jlf (jla 0 [jR (some 76), jI p0, jI p1, jI p2])) 
theorem cd_261 {pc : Nat} {i : Instr × Nat} (h : mm_lk mm_c261 pc = some i) : mm_cd 261 pc = some i := h
theorem mt_261 : mm_MT 261 = (12, 2, some .int, 2, 1, []) := rfl
set_option maxRecDepth 100000 in
theorem ok_261 {L : Nat} {xs : Nat → Int32} {p0 : Int} {p1 : Int} {h : jH} : mm_Runs (mm_xt L xs) 1 261 ([jI p0, jI p1].map jcv) (jaH h) (.inl (some (jcv (jI (jd_261 p0 p1))), jaH h)) := by
  refine ey_run0 _ mt_261 (jsl_s rfl) ?_
  refine ey_iload_n (cd_261 rfl) rfl ?_
  by_cases q1 : (jw p0) = 0
  · refine ey_yne (cd_261 rfl) rfl rfl (fun w => w q1) ?_
    refine ey_iload_n (cd_261 rfl) rfl ?_
    rw [show (jd_261 p0 p1) = p1 from by unfold jd_261; exact (if_pos q1)]
    exact ey_reti (cd_261 rfl) mt_261 rfl
  · refine ey_zne (cd_261 rfl) rfl rfl q1 ?_
    refine ey_iload_n (cd_261 rfl) rfl ?_
    refine ey_iconst (cd_261 rfl) ?_
    by_cases q2 : (jw p0) = 1
    · refine ey_nne (cd_261 rfl) rfl rfl (show jw 1 = 1 from by decide) (fun w => w q2) ?_
      refine ey_iload_n (cd_261 rfl) rfl ?_
      by_cases q3 : (jw p1) = 0
      · refine ey_yne (cd_261 rfl) rfl rfl (fun w => w q3) ?_
        refine ey_iconst (cd_261 rfl) ?_
        refine ey_goto (cd_261 rfl) rfl ?_
        rw [show (jd_261 p0 p1) = (-1) from by unfold jd_261; exact ((if_neg q1).trans ((if_pos q2).trans (if_pos q3)))]
        exact ey_reti (cd_261 rfl) mt_261 rfl
      · refine ey_zne (cd_261 rfl) rfl rfl q3 ?_
        refine ey_iload_n (cd_261 rfl) rfl ?_
        refine ey_iconst (cd_261 rfl) ?_
        by_cases q4 : (jw p1) = 1
        · refine ey_nne (cd_261 rfl) rfl rfl (show jw 1 = 1 from by decide) (fun w => w q4) ?_
          refine ey_iconst (cd_261 rfl) ?_
          refine ey_goto (cd_261 rfl) rfl ?_
          rw [show (jd_261 p0 p1) = 3 from by unfold jd_261; exact ((if_neg q1).trans ((if_pos q2).trans ((if_neg q3).trans (if_pos q4))))]
          exact ey_reti (cd_261 rfl) mt_261 rfl
        · refine ey_cne (cd_261 rfl) rfl rfl (show jw 1 = 1 from by decide) q4 ?_
          refine ey_iload_n (cd_261 rfl) rfl ?_
          refine ey_iconst (cd_261 rfl) ?_
          refine ey_isub (cd_261 rfl) ?_
          rw [show (jd_261 p0 p1) = (p1 - 2) from by unfold jd_261; exact ((if_neg q1).trans ((if_pos q2).trans ((if_neg q3).trans (if_neg q4))))]
          exact ey_reti (cd_261 rfl) mt_261 rfl
    · refine ey_cne (cd_261 rfl) rfl rfl (show jw 1 = 1 from by decide) q2 ?_
      refine ey_iload_n (cd_261 rfl) rfl ?_
      by_cases q5 : (jw p1) = 0
      · refine ey_yne (cd_261 rfl) rfl rfl (fun w => w q5) ?_
        refine ey_iconst (cd_261 rfl) ?_
        refine ey_goto (cd_261 rfl) rfl ?_
        rw [show (jd_261 p0 p1) = (-1) from by unfold jd_261; exact ((if_neg q1).trans ((if_neg q2).trans (if_pos q5)))]
        exact ey_reti (cd_261 rfl) mt_261 rfl
      · refine ey_zne (cd_261 rfl) rfl rfl q5 ?_
        refine ey_iload_n (cd_261 rfl) rfl ?_
        refine ey_iconst (cd_261 rfl) ?_
        by_cases q6 : 4 ≤ (jw p1)
        · refine ey_cge (cd_261 rfl) rfl rfl (show jw 4 = 4 from by decide) q6 ?_
          refine ey_iload_n (cd_261 rfl) rfl ?_
          refine ey_iconst (cd_261 rfl) ?_
          refine ey_isub (cd_261 rfl) ?_
          rw [show (jd_261 p0 p1) = (p1 - 4) from by unfold jd_261; exact ((if_neg q1).trans ((if_neg q2).trans ((if_neg q5).trans (if_pos q6))))]
          exact ey_reti (cd_261 rfl) mt_261 rfl
        · refine ey_nge (cd_261 rfl) rfl rfl (show jw 4 = 4 from by decide) q6 ?_
          refine ey_iload_n (cd_261 rfl) rfl ?_
          refine ey_iconst (cd_261 rfl) ?_
          refine ey_iadd (cd_261 rfl) ?_
          refine ey_goto (cd_261 rfl) rfl ?_
          rw [show (jd_261 p0 p1) = (p1 + 2) from by unfold jd_261; exact ((if_neg q1).trans ((if_neg q2).trans ((if_neg q5).trans (if_neg q6))))]
          exact ey_reti (cd_261 rfl) mt_261 rfl
theorem cd_262 {pc : Nat} {i : Instr × Nat} (h : mm_lk mm_c262 pc = some i) : mm_cd 262 pc = some i := h
theorem mt_262 : mm_MT 262 = (12, 1, some .int, 1, 1, []) := rfl
set_option maxRecDepth 100000 in
theorem ok_262 {L : Nat} {xs : Nat → Int32} {p0 : Int} {h : jH} : mm_Runs (mm_xt L xs) 1 262 ([jI p0].map jcv) (jaH h) (.inl (some (jcv (jI (jd_262 p0))), jaH h)) := by
  refine ey_run0 _ mt_262 (jsl_s rfl) ?_
  refine ey_iload_n (cd_262 rfl) rfl ?_
  by_cases q1 : (jw p0) = 0
  · refine ey_yne (cd_262 rfl) rfl rfl (fun w => w q1) ?_
    refine ey_iconst (cd_262 rfl) ?_
    refine ey_goto (cd_262 rfl) rfl ?_
    rw [show (jd_262 p0) = 3 from by unfold jd_262; exact (if_pos q1)]
    exact ey_reti (cd_262 rfl) mt_262 rfl
  · refine ey_zne (cd_262 rfl) rfl rfl q1 ?_
    refine ey_iload_n (cd_262 rfl) rfl ?_
    refine ey_iconst (cd_262 rfl) ?_
    by_cases q2 : (jw p0) = 1
    · refine ey_nne (cd_262 rfl) rfl rfl (show jw 1 = 1 from by decide) (fun w => w q2) ?_
      refine ey_iconst (cd_262 rfl) ?_
      refine ey_goto (cd_262 rfl) rfl ?_
      rw [show (jd_262 p0) = 5 from by unfold jd_262; exact ((if_neg q1).trans (if_pos q2))]
      exact ey_reti (cd_262 rfl) mt_262 rfl
    · refine ey_cne (cd_262 rfl) rfl rfl (show jw 1 = 1 from by decide) q2 ?_
      refine ey_bipush (cd_262 rfl) (by decide) ?_
      rw [show (jd_262 p0) = 7 from by unfold jd_262; exact ((if_neg q1).trans (if_neg q2))]
      exact ey_reti (cd_262 rfl) mt_262 rfl
theorem cd_263 {pc : Nat} {i : Instr × Nat} (h : mm_lk mm_c263 pc = some i) : mm_cd 263 pc = some i := h
theorem mt_263 : mm_MT 263 = (12, 3, some .int, 1, 0, []) := rfl
set_option maxRecDepth 100000 in
theorem jk_263_b33 {L : Nat} {xs : Nat → Int32} {b : jH} (hb : 152 ≤ b.1) (h6 : b.1 ≤ 1000000) {x2 : Int} {m : jM} {o : (Int × jM)} (e : jd_263_b33 x2 m = some o) : ∀ lv : jL, lv 2 = some (jI x2) → ey (mm_xt L xs) 3 263 33 lv [] (jhm b m) (.inl (some (jcv (jI o.1)), jaH (jhm b o.2))) := by
  intro lv f2
  unfold jd_263_b33 at e
  refine ey_iload_n (cd_263 rfl) f2 ?_
  cases e
  exact ey_reti (cd_263 rfl) mt_263 rfl
set_option maxRecDepth 100000 in
theorem ok_263 {L : Nat} {xs : Nat → Int32} {b : jH} (hb : 152 ≤ b.1) (h6 : b.1 ≤ 1000000) {p0 : Int} {m : jM} {o : (Int × jM)} (e : jd_263 p0 m = some o) : mm_Runs (mm_xt L xs) 4 263 ([jR (some 76), jI p0].map jcv) (jaH (jhm b m)) (.inl (some (jcv (jI o.1)), jaH (jhm b o.2))) := by
  refine ey_run0 _ mt_263 (jsl_s rfl) ?_
  unfold jd_263 at e
  refine ey_iload_n (cd_263 rfl) rfl ?_
  refine ey_aload_n (cd_263 rfl) rfl ?_
  obtain ⟨q1, e2, e⟩ := jbind e
  refine ey_cv (s0 := [jR (some 76), jI p0]) (s1 := [jI p0]) (st' := [jI q1.1, jI p0]) (cd_263 rfl) mt_263 mt_230 rfl rfl rfl (jhm_is hb) rfl (jsml_s rfl) rfl (ok_230 hb h6 e2) ?_
  refine ey_iadd (cd_263 rfl) ?_
  refine ey_istore_n (cd_263 rfl) mt_263 rfl ?_
  refine ey_aload_n (cd_263 rfl) rfl ?_
  refine ey_getf_i (z := (q1.2 76 52)) (cd_263 rfl) mt_263 rfl rfl rfl (jhm_gi hb 52) ?_
  by_cases q3 : (jw (q1.2 76 52)) = 0
  · rw [if_pos q3] at e
    refine ey_yne (cd_263 rfl) rfl rfl (fun w => w q3) ?_
    refine ey_iload_n (cd_263 rfl) rfl ?_
    refine ey_i2l (cd_263 rfl) ?_
    refine ey_ldc2 (z := (-16)) (cd_263 rfl) mt_263 rfl (by decide) ?_
    refine ey_ldc2 (z := 16) (cd_263 rfl) mt_263 rfl (by decide) ?_
    refine ey_cs (s0 := [jJ 16, jJ (-16), jJ (jw (p0 + q1.1))]) (s1 := []) (st' := [jI (jd_204 (jw (p0 + q1.1)) (-16) 16)]) (cd_263 rfl) mt_263 mt_204 rfl (by decide) rfl rfl (jsml_s rfl) rfl (mm_Runs.up (d := 1) (by decide) (ok_204 )) ?_
    by_cases q4 : (jw (jd_204 (jw (p0 + q1.1)) (-16) 16)) = 0
    · rw [if_pos q4] at e
      refine ey_yne (cd_263 rfl) rfl rfl (fun w => w q4) ?_
      refine ey_aload_n (cd_263 rfl) rfl ?_
      refine ey_iconst (cd_263 rfl) ?_
      obtain ⟨m5, e6, e⟩ := jbind e
      refine ey_cv (s0 := [jI 3, jR (some 76)]) (s1 := []) (st' := []) (cd_263 rfl) mt_263 mt_231 rfl rfl rfl (jhm_is hb) rfl (jsml_s rfl) rfl (mm_Runs.up (d := 1) (by decide) (ok_231 hb h6 e6)) ?_
      exact jk_263_b33 hb h6 e (jup (jlf (jla 0 [jR (some 76), jI p0])) 2 (jI (p0 + q1.1))) rfl
    · rw [if_neg q4] at e
      refine ey_zne (cd_263 rfl) rfl rfl q4 ?_
      exact jk_263_b33 hb h6 e (jup (jlf (jla 0 [jR (some 76), jI p0])) 2 (jI (p0 + q1.1))) rfl
  · rw [if_neg q3] at e
    refine ey_zne (cd_263 rfl) rfl rfl q3 ?_
    exact jk_263_b33 hb h6 e (jup (jlf (jla 0 [jR (some 76), jI p0])) 2 (jI (p0 + q1.1))) rfl
theorem cd_264 {pc : Nat} {i : Instr × Nat} (h : mm_lk mm_c264 pc = some i) : mm_cd 264 pc = some i := h
theorem mt_264 : mm_MT 264 = (12, 3, none, 2, 0, []) := rfl
set_option maxRecDepth 100000 in
theorem jk_264_b66 {L : Nat} {xs : Nat → Int32} {b : jH} (hb : 152 ≤ b.1) (h6 : b.1 ≤ 1000000) {y0 : Int} {m : jM} {o : jM} (e : jd_264_b66 y0 m = some o) : ∀ lv : jL, lv 0 = some (jR (some 76)) → ey (mm_xt L xs) 2 264 66 lv [jI y0, jR (some 76)] (jhm b m) (.inl (none, jaH (jhm b o))) := by
  intro lv f0
  unfold jd_264_b66 at e
  obtain ⟨m17, e18, e⟩ := jbind e
  refine ey_putf_i (cd_264 rfl) mt_264 rfl rfl rfl (jhm_pi' (k := 63) hb e18) ?_
  refine ey_aload_n (cd_264 rfl) f0 ?_
  refine ey_iconst (cd_264 rfl) ?_
  obtain ⟨m19, e20, e⟩ := jbind e
  refine ey_putf_i (cd_264 rfl) mt_264 rfl rfl rfl (jhm_pi' (k := 64) hb e20) ?_
  refine ey_aload_n (cd_264 rfl) f0 ?_
  refine ey_iconst (cd_264 rfl) ?_
  obtain ⟨m21, e22, e⟩ := jbind e
  refine ey_putf_i (cd_264 rfl) mt_264 rfl rfl rfl (jhm_pi' (k := 65) hb e22) ?_
  cases e
  exact ey_retv (cd_264 rfl) mt_264 rfl
set_option maxRecDepth 100000 in
theorem jk_264_b41 {L : Nat} {xs : Nat → Int32} {b : jH} (hb : 152 ≤ b.1) (h6 : b.1 ≤ 1000000) {x1 : Int} {x2 : Int} {y0 : Int} {m : jM} {o : jM} (e : jd_264_b41 x1 x2 y0 m = some o) : ∀ lv : jL, lv 0 = some (jR (some 76)) → lv 1 = some (jI x1) → lv 2 = some (jI x2) → ey (mm_xt L xs) 2 264 41 lv [jI y0, jR (some 76)] (jhm b m) (.inl (none, jaH (jhm b o))) := by
  intro lv f0 f1 f2
  unfold jd_264_b41 at e
  obtain ⟨m10, e11, e⟩ := jbind e
  refine ey_putf_i (cd_264 rfl) mt_264 rfl rfl rfl (jhm_pi' (k := 62) hb e11) ?_
  refine ey_aload_n (cd_264 rfl) f0 ?_
  refine ey_aload_n (cd_264 rfl) f0 ?_
  refine ey_getf_r (cd_264 rfl) mt_264 rfl rfl rfl (jhm_gr (q := 102) hb rfl) ?_
  refine ey_iload_n (cd_264 rfl) f1 ?_
  obtain ⟨v12, e13, e⟩ := jbind e
  refine ey_iald (cd_264 rfl) (jhm_ai hb h6 (by decide) rfl e13) ?_
  refine ey_iconst (cd_264 rfl) ?_
  by_cases q14 : (jw v12) = 1
  · rw [if_pos q14] at e
    refine ey_nne (cd_264 rfl) rfl rfl (show jw 1 = 1 from by decide) (fun w => w q14) ?_
    refine ey_aload_n (cd_264 rfl) f0 ?_
    refine ey_iload_n (cd_264 rfl) f1 ?_
    refine ey_iload_n (cd_264 rfl) f2 ?_
    refine ey_iconst (cd_264 rfl) ?_
    obtain ⟨v15, e16, e⟩ := jbind e
    refine ey_cv (s0 := [jI 2, jI x2, jI x1, jR (some 76), jR (some 76)]) (s1 := [jR (some 76)]) (st' := [jI v15, jR (some 76)]) (cd_264 rfl) mt_264 mt_260 rfl rfl rfl (jhm_is hb) rfl (jsml_s rfl) rfl (ok_260 hb h6 e16) ?_
    refine ey_goto (cd_264 rfl) rfl ?_
    exact jk_264_b66 hb h6 e lv f0
  · rw [if_neg q14] at e
    refine ey_cne (cd_264 rfl) rfl rfl (show jw 1 = 1 from by decide) q14 ?_
    refine ey_iconst (cd_264 rfl) ?_
    exact jk_264_b66 hb h6 e lv f0
set_option maxRecDepth 100000 in
theorem ok_264 {L : Nat} {xs : Nat → Int32} {b : jH} (hb : 152 ≤ b.1) (h6 : b.1 ≤ 1000000) {p0 : Int} {p1 : Int} {m : jM} {o : jM} (e : jd_264 p0 p1 m = some o) : mm_Runs (mm_xt L xs) 3 264 ([jR (some 76), jI p0, jI p1].map jcv) (jaH (jhm b m)) (.inl (none, jaH (jhm b o))) := by
  refine ey_run0 _ mt_264 (jsl_s rfl) ?_
  unfold jd_264 at e
  refine ey_aload_n (cd_264 rfl) rfl ?_
  refine ey_aload_n (cd_264 rfl) rfl ?_
  refine ey_getf_r (cd_264 rfl) mt_264 rfl rfl rfl (jhm_gr (q := 102) hb rfl) ?_
  refine ey_iload_n (cd_264 rfl) rfl ?_
  obtain ⟨v1, e2, e⟩ := jbind e
  refine ey_iald (cd_264 rfl) (jhm_ai hb h6 (by decide) rfl e2) ?_
  refine ey_iconst (cd_264 rfl) ?_
  have K23 : ∀ lv : jL, lv 0 = some (jR (some 76)) → lv 1 = some (jI p0) → lv 2 = some (jI p1) → ey (mm_xt L xs) 2 264 16 lv [jI (if (jw v1) = 1 then 3 else 5), jR (some 76)] (jhm b m) (.inl (none, jaH (jhm b o))) := by
    intro lv g0 g1 g2
    obtain ⟨m3, e4, e⟩ := jbind e
    refine ey_putf_i (cd_264 rfl) mt_264 rfl rfl rfl (jhm_pi' (k := 61) hb e4) ?_
    refine ey_aload_n (cd_264 rfl) g0 ?_
    refine ey_aload_n (cd_264 rfl) g0 ?_
    refine ey_getf_r (cd_264 rfl) mt_264 rfl rfl rfl (jhm_gr (q := 102) hb rfl) ?_
    refine ey_iload_n (cd_264 rfl) g1 ?_
    obtain ⟨v5, e6, e⟩ := jbind e
    refine ey_iald (cd_264 rfl) (jhm_ai hb h6 (by decide) rfl e6) ?_
    refine ey_iconst (cd_264 rfl) ?_
    by_cases q7 : (jw v5) = 1
    · rw [if_pos q7] at e
      refine ey_nne (cd_264 rfl) rfl rfl (show jw 1 = 1 from by decide) (fun w => w q7) ?_
      refine ey_aload_n (cd_264 rfl) g0 ?_
      refine ey_iload_n (cd_264 rfl) g1 ?_
      refine ey_iload_n (cd_264 rfl) g2 ?_
      refine ey_iconst (cd_264 rfl) ?_
      obtain ⟨v8, e9, e⟩ := jbind e
      refine ey_cv (s0 := [jI 1, jI p1, jI p0, jR (some 76), jR (some 76)]) (s1 := [jR (some 76)]) (st' := [jI v8, jR (some 76)]) (cd_264 rfl) mt_264 mt_260 rfl rfl rfl (jhm_is hb) rfl (jsml_s rfl) rfl (ok_260 hb h6 e9) ?_
      refine ey_goto (cd_264 rfl) rfl ?_
      exact jk_264_b41 hb h6 e lv g0 g1 g2
    · rw [if_neg q7] at e
      refine ey_cne (cd_264 rfl) rfl rfl (show jw 1 = 1 from by decide) q7 ?_
      refine ey_iconst (cd_264 rfl) ?_
      exact jk_264_b41 hb h6 e lv g0 g1 g2
  by_cases q24 : (jw v1) = 1
  · refine ey_nne (cd_264 rfl) rfl rfl (show jw 1 = 1 from by decide) (fun w => w q24) ?_
    refine ey_iconst (cd_264 rfl) ?_
    refine ey_goto (cd_264 rfl) rfl ?_
    exact ey_rs (s0 := [jI 3, jR (some 76)]) (s1 := [jI (if (jw v1) = 1 then 3 else 5), jR (some 76)]) (by rw [show ((if (jw v1) = 1 then 3 else 5) : Int) = 3 from (if_pos q24)]) (K23 (jlf (jla 0 [jR (some 76), jI p0, jI p1])) rfl rfl rfl)
  · refine ey_cne (cd_264 rfl) rfl rfl (show jw 1 = 1 from by decide) q24 ?_
    refine ey_iconst (cd_264 rfl) ?_
    exact ey_rs (s0 := [jI 5, jR (some 76)]) (s1 := [jI (if (jw v1) = 1 then 3 else 5), jR (some 76)]) (by rw [show ((if (jw v1) = 1 then 3 else 5) : Int) = 5 from (if_neg q24)]) (K23 (jlf (jla 0 [jR (some 76), jI p0, jI p1])) rfl rfl rfl)
theorem cd_266 {pc : Nat} {i : Instr × Nat} (h : mm_lk mm_c266 pc = some i) : mm_cd 266 pc = some i := h
theorem mt_266 : mm_MT 266 = (12, 5, none, 3, 0, []) := rfl
set_option maxRecDepth 100000 in
theorem ok_266 {L : Nat} {xs : Nat → Int32} {b : jH} (hb : 152 ≤ b.1) (h6 : b.1 ≤ 1000000) {p0 : Int} {p1 : Int} {p2 : Int} {m : jM} {o : jM} (e : jd_266 p0 p1 p2 m = some o) : mm_Runs (mm_xt L xs) 1 266 ([jR (some 76), jI p0, jI p1, jI p2].map jcv) (jaH (jhm b m)) (.inl (none, jaH (jhm b o))) := by
  refine ey_run0 _ mt_266 (jsl_s rfl) ?_
  unfold jd_266 at e
  refine ey_bipush (cd_266 rfl) (by decide) ?_
  refine ey_iload_n (cd_266 rfl) rfl ?_
  refine ey_imul (cd_266 rfl) ?_
  refine ey_bipush (cd_266 rfl) (by decide) ?_
  refine ey_iload_n (cd_266 rfl) rfl ?_
  refine ey_imul (cd_266 rfl) ?_
  refine ey_iadd (cd_266 rfl) ?_
  refine ey_istore (cd_266 rfl) mt_266 rfl ?_
  refine ey_aload_n (cd_266 rfl) rfl ?_
  refine ey_getf_r (cd_266 rfl) mt_266 rfl rfl rfl (jhm_gr (q := 111) hb rfl) ?_
  refine ey_iload (cd_266 rfl) rfl ?_
  refine ey_aload_n (cd_266 rfl) rfl ?_
  refine ey_getf_i (z := (m 76 60)) (cd_266 rfl) mt_266 rfl rfl rfl (jhm_gi hb 60) ?_
  obtain ⟨m1, e2, e⟩ := jbind e
  refine ey_iast (cd_266 rfl) (jhm_ta hb (by decide) rfl e2) ?_
  refine ey_aload_n (cd_266 rfl) rfl ?_
  refine ey_getf_r (cd_266 rfl) mt_266 rfl rfl rfl (jhm_gr (q := 111) hb rfl) ?_
  refine ey_iload (cd_266 rfl) rfl ?_
  refine ey_iconst (cd_266 rfl) ?_
  refine ey_iadd (cd_266 rfl) ?_
  refine ey_aload_n (cd_266 rfl) rfl ?_
  refine ey_getf_i (z := (m1 76 62)) (cd_266 rfl) mt_266 rfl rfl rfl (jhm_gi hb 62) ?_
  obtain ⟨m3, e4, e⟩ := jbind e
  refine ey_iast (cd_266 rfl) (jhm_ta hb (by decide) rfl e4) ?_
  refine ey_aload_n (cd_266 rfl) rfl ?_
  refine ey_getf_r (cd_266 rfl) mt_266 rfl rfl rfl (jhm_gr (q := 111) hb rfl) ?_
  refine ey_iload (cd_266 rfl) rfl ?_
  refine ey_iconst (cd_266 rfl) ?_
  refine ey_iadd (cd_266 rfl) ?_
  refine ey_aload_n (cd_266 rfl) rfl ?_
  refine ey_getf_i (z := (m3 76 63)) (cd_266 rfl) mt_266 rfl rfl rfl (jhm_gi hb 63) ?_
  obtain ⟨m5, e6, e⟩ := jbind e
  refine ey_iast (cd_266 rfl) (jhm_ta hb (by decide) rfl e6) ?_
  refine ey_aload_n (cd_266 rfl) rfl ?_
  refine ey_getf_r (cd_266 rfl) mt_266 rfl rfl rfl (jhm_gr (q := 111) hb rfl) ?_
  refine ey_iload (cd_266 rfl) rfl ?_
  refine ey_iconst (cd_266 rfl) ?_
  refine ey_iadd (cd_266 rfl) ?_
  refine ey_aload_n (cd_266 rfl) rfl ?_
  refine ey_getf_i (z := (m5 76 64)) (cd_266 rfl) mt_266 rfl rfl rfl (jhm_gi hb 64) ?_
  obtain ⟨m7, e8, e⟩ := jbind e
  refine ey_iast (cd_266 rfl) (jhm_ta hb (by decide) rfl e8) ?_
  refine ey_aload_n (cd_266 rfl) rfl ?_
  refine ey_getf_r (cd_266 rfl) mt_266 rfl rfl rfl (jhm_gr (q := 111) hb rfl) ?_
  refine ey_iload (cd_266 rfl) rfl ?_
  refine ey_iconst (cd_266 rfl) ?_
  refine ey_iadd (cd_266 rfl) ?_
  refine ey_aload_n (cd_266 rfl) rfl ?_
  refine ey_getf_i (z := (m7 76 65)) (cd_266 rfl) mt_266 rfl rfl rfl (jhm_gi hb 65) ?_
  obtain ⟨m9, e10, e⟩ := jbind e
  refine ey_iast (cd_266 rfl) (jhm_ta hb (by decide) rfl e10) ?_
  refine ey_aload_n (cd_266 rfl) rfl ?_
  refine ey_getf_r (cd_266 rfl) mt_266 rfl rfl rfl (jhm_gr (q := 111) hb rfl) ?_
  refine ey_iload (cd_266 rfl) rfl ?_
  refine ey_iconst (cd_266 rfl) ?_
  refine ey_iadd (cd_266 rfl) ?_
  refine ey_aload_n (cd_266 rfl) rfl ?_
  refine ey_getf_i (z := (m9 76 59)) (cd_266 rfl) mt_266 rfl rfl rfl (jhm_gi hb 59) ?_
  obtain ⟨m11, e12, e⟩ := jbind e
  refine ey_iast (cd_266 rfl) (jhm_ta hb (by decide) rfl e12) ?_
  refine ey_aload_n (cd_266 rfl) rfl ?_
  refine ey_getf_r (cd_266 rfl) mt_266 rfl rfl rfl (jhm_gr (q := 111) hb rfl) ?_
  refine ey_iload (cd_266 rfl) rfl ?_
  refine ey_bipush (cd_266 rfl) (by decide) ?_
  refine ey_iadd (cd_266 rfl) ?_
  refine ey_iload_n (cd_266 rfl) (jup_pi (lv := (jlf (jla 0 [jR (some 76), jI p0, jI p1, jI p2]))) (j := 3) (v := jI ((63 * p0) + (7 * p1))) (z := p2) rfl) ?_
  obtain ⟨m13, e14, e⟩ := jbind e
  refine ey_iast (cd_266 rfl) (jhm_ta hb (by decide) rfl e14) ?_
  cases e
  exact ey_retv (cd_266 rfl) mt_266 rfl
theorem cd_267 {pc : Nat} {i : Instr × Nat} (h : mm_lk mm_c267 pc = some i) : mm_cd 267 pc = some i := h
theorem mt_267 : mm_MT 267 = (12, 6, none, 2, 0, []) := rfl
set_option maxRecDepth 100000 in
theorem jk_267_s16 {L : Nat} {xs : Nat → Int32} {b : jH} (hb : 152 ≤ b.1) (h6 : b.1 ≤ 1000000) {x1 : Int} {x2 : Int} {x3 : Int} {x4 : Int} {x5 : Int} {m : jM} {o : ((Int × jM) ⊕ jM)} {r : mm_R} (e : jd_267_s16 x1 x2 x3 x4 x5 m = some o) (K : jsm (fun s => (∀ lv : jL, lv 0 = some (jR (some 76)) → lv 1 = some (jI x1) → lv 2 = some (jI x2) → lv 3 = some (jI x3) → lv 4 = some (jI x4) → lv 5 = some (jI s.1) → ey (mm_xt L xs) 2 267 16 lv [] (jhm b s.2) r)) (fun x => (∀ lv : jL, lv 0 = some (jR (some 76)) → lv 1 = some (jI x1) → lv 2 = some (jI x2) → lv 3 = some (jI x3) → ey (mm_xt L xs) 2 267 104 lv [] (jhm b x) r)) o) : ∀ lv : jL, lv 0 = some (jR (some 76)) → lv 1 = some (jI x1) → lv 2 = some (jI x2) → lv 3 = some (jI x3) → lv 4 = some (jI x4) → lv 5 = some (jI x5) → ey (mm_xt L xs) 2 267 16 lv [] (jhm b m) r := by
  intro lv f0 f1 f2 f3 f4 f5
  unfold jd_267_s16 at e
  refine ey_iload (cd_267 rfl) f5 ?_
  refine ey_iload (cd_267 rfl) f4 ?_
  refine ey_iload (cd_267 rfl) f4 ?_
  refine ey_imul (cd_267 rfl) ?_
  by_cases q2 : (jw (x4 * x4)) ≤ (jw x5)
  · rw [if_pos q2] at e
    refine ey_cge (cd_267 rfl) rfl rfl rfl q2 ?_
    cases e
    exact K lv f0 f1 f2 f3
  · rw [if_neg q2] at e
    refine ey_nge (cd_267 rfl) rfl rfl rfl q2 ?_
    refine ey_aload_n (cd_267 rfl) f0 ?_
    refine ey_getf_r (cd_267 rfl) mt_267 rfl rfl rfl (jhm_gr (q := 109) hb rfl) ?_
    refine ey_aload_n (cd_267 rfl) f0 ?_
    refine ey_iload_n (cd_267 rfl) f1 ?_
    refine ey_iload_n (cd_267 rfl) f3 ?_
    refine ey_iload (cd_267 rfl) f4 ?_
    refine ey_aload_n (cd_267 rfl) f0 ?_
    refine ey_iload_n (cd_267 rfl) f2 ?_
    obtain ⟨v3, e4, e⟩ := jbind e
    refine ey_cv (s0 := [jI x2, jR (some 76), jI x4, jI x3, jI x1, jR (some 76), jR (some 109)]) (s1 := [jI x4, jI x3, jI x1, jR (some 76), jR (some 109)]) (st' := [jI v3, jI x4, jI x3, jI x1, jR (some 76), jR (some 109)]) (cd_267 rfl) mt_267 mt_245 rfl rfl rfl (jhm_is hb) rfl (jsml_s rfl) rfl (mm_Runs.up (d := 1) (by decide) (ok_245 hb h6 e4)) ?_
    refine ey_imul (cd_267 rfl) ?_
    refine ey_iload (cd_267 rfl) f5 ?_
    refine ey_iload (cd_267 rfl) f4 ?_
    obtain ⟨u5, e6, e⟩ := jbind e
    refine ey_irem (cd_267 rfl) (jnz_s e6) ?_
    refine ey_iadd (cd_267 rfl) ?_
    refine ey_iload (cd_267 rfl) f4 ?_
    refine ey_aload_n (cd_267 rfl) f0 ?_
    refine ey_iload_n (cd_267 rfl) f2 ?_
    obtain ⟨v7, e8, e⟩ := jbind e
    refine ey_cv (s0 := [jI x2, jR (some 76), jI x4, jI ((x4 * v3) + (jrem x5 x4)), jI x3, jI x1, jR (some 76), jR (some 109)]) (s1 := [jI x4, jI ((x4 * v3) + (jrem x5 x4)), jI x3, jI x1, jR (some 76), jR (some 109)]) (st' := [jI v7, jI x4, jI ((x4 * v3) + (jrem x5 x4)), jI x3, jI x1, jR (some 76), jR (some 109)]) (cd_267 rfl) mt_267 mt_246 rfl rfl rfl (jhm_is hb) rfl (jsml_s rfl) rfl (mm_Runs.up (d := 1) (by decide) (ok_246 hb h6 e8)) ?_
    refine ey_imul (cd_267 rfl) ?_
    refine ey_iload (cd_267 rfl) f5 ?_
    refine ey_iload (cd_267 rfl) f4 ?_
    obtain ⟨u9, e10, e⟩ := jbind e
    refine ey_idiv (cd_267 rfl) (jnz_s e10) ?_
    refine ey_iadd (cd_267 rfl) ?_
    refine ey_cv (s0 := [jI ((x4 * v7) + (jdiv x5 x4)), jI ((x4 * v3) + (jrem x5 x4)), jI x3, jI x1, jR (some 76), jR (some 109)]) (s1 := [jR (some 109)]) (st' := [jI (jd_237 x1 x3 ((x4 * v3) + (jrem x5 x4)) ((x4 * v7) + (jdiv x5 x4)) m), jR (some 109)]) (cd_267 rfl) mt_267 mt_237 rfl rfl rfl (jhm_is hb) rfl (jsml_s rfl) rfl (ok_237 hb h6 ) ?_
    refine ey_aload_n (cd_267 rfl) f0 ?_
    refine ey_getf_r (cd_267 rfl) mt_267 rfl rfl rfl (jhm_gr (q := 114) hb rfl) ?_
    refine ey_iload_n (cd_267 rfl) f3 ?_
    refine ey_cs (s0 := [jI x3, jR (some 114), jI (jd_237 x1 x3 ((x4 * v3) + (jrem x5 x4)) ((x4 * v7) + (jdiv x5 x4)) m), jR (some 109)]) (s1 := [jR (some 114), jI (jd_237 x1 x3 ((x4 * v3) + (jrem x5 x4)) ((x4 * v7) + (jdiv x5 x4)) m), jR (some 109)]) (st' := [jI (jd_244 x3), jR (some 114), jI (jd_237 x1 x3 ((x4 * v3) + (jrem x5 x4)) ((x4 * v7) + (jdiv x5 x4)) m), jR (some 109)]) (cd_267 rfl) mt_267 mt_244 rfl (by decide) rfl rfl (jsml_s rfl) rfl (mm_Runs.up (d := 1) (by decide) (ok_244 )) ?_
    refine ey_iload (cd_267 rfl) f5 ?_
    refine ey_iadd (cd_267 rfl) ?_
    obtain ⟨v11, e12, e⟩ := jbind e
    refine ey_iald (cd_267 rfl) (jhm_ai hb h6 (by decide) rfl e12) ?_
    refine ey_aload_n (cd_267 rfl) f0 ?_
    refine ey_getf_r (cd_267 rfl) mt_267 rfl rfl rfl (jhm_gr (q := 115) hb rfl) ?_
    refine ey_iload_n (cd_267 rfl) f3 ?_
    refine ey_cs (s0 := [jI x3, jR (some 115), jI v11, jI (jd_237 x1 x3 ((x4 * v3) + (jrem x5 x4)) ((x4 * v7) + (jdiv x5 x4)) m), jR (some 109)]) (s1 := [jR (some 115), jI v11, jI (jd_237 x1 x3 ((x4 * v3) + (jrem x5 x4)) ((x4 * v7) + (jdiv x5 x4)) m), jR (some 109)]) (st' := [jI (jd_244 x3), jR (some 115), jI v11, jI (jd_237 x1 x3 ((x4 * v3) + (jrem x5 x4)) ((x4 * v7) + (jdiv x5 x4)) m), jR (some 109)]) (cd_267 rfl) mt_267 mt_244 rfl (by decide) rfl rfl (jsml_s rfl) rfl (mm_Runs.up (d := 1) (by decide) (ok_244 )) ?_
    refine ey_iload (cd_267 rfl) f5 ?_
    refine ey_iadd (cd_267 rfl) ?_
    obtain ⟨v13, e14, e⟩ := jbind e
    refine ey_iald (cd_267 rfl) (jhm_ai hb h6 (by decide) rfl e14) ?_
    refine ey_iadd (cd_267 rfl) ?_
    refine ey_i2l (cd_267 rfl) ?_
    refine ey_iconst (cd_267 rfl) ?_
    refine ey_sipush (cd_267 rfl) (by decide) ?_
    refine ey_cs (s0 := [jI 255, jI 0, jJ (jw (v11 + v13)), jI (jd_237 x1 x3 ((x4 * v3) + (jrem x5 x4)) ((x4 * v7) + (jdiv x5 x4)) m), jR (some 109)]) (s1 := [jI (jd_237 x1 x3 ((x4 * v3) + (jrem x5 x4)) ((x4 * v7) + (jdiv x5 x4)) m), jR (some 109)]) (st' := [jI (jd_205 (jw (v11 + v13)) 0 255), jI (jd_237 x1 x3 ((x4 * v3) + (jrem x5 x4)) ((x4 * v7) + (jdiv x5 x4)) m), jR (some 109)]) (cd_267 rfl) mt_267 mt_205 rfl (by decide) rfl rfl (jsml_s rfl) rfl (mm_Runs.up (d := 1) (by decide) (ok_205 )) ?_
    obtain ⟨m15, e16, e⟩ := jbind e
    refine ey_iast (cd_267 rfl) (jhm_ta hb (by decide) rfl e16) ?_
    refine ey_iinc (cd_267 rfl) mt_267 rfl f5 ?_
    refine ey_goto (cd_267 rfl) rfl ?_
    cases e
    exact K (jup lv 5 (jI (x5 + 1))) f0 f1 f2 f3 (jup_pi (lv := lv) (j := 4) (v := jI (x5 + 1)) (z := x4) f4) rfl
theorem jk_267_l16 {L : Nat} {xs : Nat → Int32} {b : jH} (hb : 152 ≤ b.1) (h6 : b.1 ≤ 1000000) {x1 : Int} {x2 : Int} {x3 : Int} {x4 : Int} {x5 : Int} {m : jM} {x : jM} {r : mm_R} (e : jd_267_l16 x1 x2 x3 x4 x5 m = some x) (K : (∀ lv : jL, lv 0 = some (jR (some 76)) → lv 1 = some (jI x1) → lv 2 = some (jI x2) → lv 3 = some (jI x3) → ey (mm_xt L xs) 2 267 104 lv [] (jhm b x) r)) : ∀ lv : jL, lv 0 = some (jR (some 76)) → lv 1 = some (jI x1) → lv 2 = some (jI x2) → lv 3 = some (jI x3) → lv 4 = some (jI x4) → lv 5 = some (jI x5) → ey (mm_xt L xs) 2 267 16 lv [] (jhm b m) r := by
  unfold jd_267_l16 at e
  exact jlp_ok2 (P := fun s => ∀ lv : jL, lv 0 = some (jR (some 76)) → lv 1 = some (jI x1) → lv 2 = some (jI x2) → lv 3 = some (jI x3) → lv 4 = some (jI x4) → lv 5 = some (jI s.1) → ey (mm_xt L xs) 2 267 16 lv [] (jhm b s.2) r) (Q := fun x => (∀ lv : jL, lv 0 = some (jR (some 76)) → lv 1 = some (jI x1) → lv 2 = some (jI x2) → lv 3 = some (jI x3) → ey (mm_xt L xs) 2 267 104 lv [] (jhm b x) r)) (fun s q hq hk => jk_267_s16 hb h6 hq hk) jfu _ x e K
set_option maxRecDepth 100000 in
theorem jk_267_s2 {L : Nat} {xs : Nat → Int32} {b : jH} (hb : 152 ≤ b.1) (h6 : b.1 ≤ 1000000) {x1 : Int} {x2 : Int} {x3 : Int} {m : jM} {o : ((Int × jM) ⊕ jM)} {r : mm_R} (e : jd_267_s2 x1 x2 x3 m = some o) (K : jsm (fun s => (∀ lv : jL, lv 0 = some (jR (some 76)) → lv 1 = some (jI x1) → lv 2 = some (jI x2) → lv 3 = some (jI s.1) → ey (mm_xt L xs) 2 267 2 lv [] (jhm b s.2) r)) (fun x => (∀ lv : jL, ey (mm_xt L xs) 2 267 110 lv [] (jhm b x) r)) o) : ∀ lv : jL, lv 0 = some (jR (some 76)) → lv 1 = some (jI x1) → lv 2 = some (jI x2) → lv 3 = some (jI x3) → ey (mm_xt L xs) 2 267 2 lv [] (jhm b m) r := by
  intro lv f0 f1 f2 f3
  unfold jd_267_s2 at e
  refine ey_iload_n (cd_267 rfl) f3 ?_
  refine ey_iconst (cd_267 rfl) ?_
  by_cases q1 : 3 ≤ (jw x3)
  · rw [if_pos q1] at e
    refine ey_cge (cd_267 rfl) rfl rfl (show jw 3 = 3 from by decide) q1 ?_
    cases e
    exact K lv 
  · rw [if_neg q1] at e
    refine ey_nge (cd_267 rfl) rfl rfl (show jw 3 = 3 from by decide) q1 ?_
    refine ey_iload_n (cd_267 rfl) f3 ?_
    refine ey_cs (s0 := [jI x3]) (s1 := []) (st' := [jI (jd_243 x3)]) (cd_267 rfl) mt_267 mt_243 rfl (by decide) rfl rfl (jsml_s rfl) rfl (mm_Runs.up (d := 1) (by decide) (ok_243 )) ?_
    refine ey_istore (cd_267 rfl) mt_267 rfl ?_
    refine ey_iconst (cd_267 rfl) ?_
    refine ey_istore (cd_267 rfl) mt_267 rfl ?_
    obtain ⟨x17, e18, e⟩ := jbind e
    refine jk_267_l16 hb h6 e18 ?_ (jup (jup lv 4 (jI (jd_243 x3))) 5 (jI 0)) f0 f1 f2 (jup_o rfl (jup_pi (lv := lv) (j := 3) (v := jI (jd_243 x3)) (z := x3) f3)) (jup_pi (lv := (jup lv 4 (jI (jd_243 x3)))) (j := 4) (v := jI 0) (z := (jd_243 x3)) rfl) rfl
    intro lv g0 g1 g2 g3
    refine ey_iinc (cd_267 rfl) mt_267 rfl g3 ?_
    refine ey_goto (cd_267 rfl) rfl ?_
    cases e
    exact K (jup lv 3 (jI (x3 + 1))) g0 g1 (jup_pi (lv := lv) (j := 2) (v := jI (x3 + 1)) (z := x2) g2) rfl
theorem jk_267_l2 {L : Nat} {xs : Nat → Int32} {b : jH} (hb : 152 ≤ b.1) (h6 : b.1 ≤ 1000000) {x1 : Int} {x2 : Int} {x3 : Int} {m : jM} {x : jM} {r : mm_R} (e : jd_267_l2 x1 x2 x3 m = some x) (K : (∀ lv : jL, ey (mm_xt L xs) 2 267 110 lv [] (jhm b x) r)) : ∀ lv : jL, lv 0 = some (jR (some 76)) → lv 1 = some (jI x1) → lv 2 = some (jI x2) → lv 3 = some (jI x3) → ey (mm_xt L xs) 2 267 2 lv [] (jhm b m) r := by
  unfold jd_267_l2 at e
  exact jlp_ok2 (P := fun s => ∀ lv : jL, lv 0 = some (jR (some 76)) → lv 1 = some (jI x1) → lv 2 = some (jI x2) → lv 3 = some (jI s.1) → ey (mm_xt L xs) 2 267 2 lv [] (jhm b s.2) r) (Q := fun x => (∀ lv : jL, ey (mm_xt L xs) 2 267 110 lv [] (jhm b x) r)) (fun s q hq hk => jk_267_s2 hb h6 hq hk) jfu _ x e K
set_option maxRecDepth 100000 in
theorem ok_267 {L : Nat} {xs : Nat → Int32} {b : jH} (hb : 152 ≤ b.1) (h6 : b.1 ≤ 1000000) {p0 : Int} {p1 : Int} {m : jM} {o : jM} (e : jd_267 p0 p1 m = some o) : mm_Runs (mm_xt L xs) 3 267 ([jR (some 76), jI p0, jI p1].map jcv) (jaH (jhm b m)) (.inl (none, jaH (jhm b o))) := by
  refine ey_run0 _ mt_267 (jsl_s rfl) ?_
  unfold jd_267 at e
  refine ey_iconst (cd_267 rfl) ?_
  refine ey_istore_n (cd_267 rfl) mt_267 rfl ?_
  obtain ⟨x19, e20, e⟩ := jbind e
  refine jk_267_l2 hb h6 e20 ?_ (jup (jlf (jla 0 [jR (some 76), jI p0, jI p1])) 3 (jI 0)) rfl rfl (jup_pi (lv := (jlf (jla 0 [jR (some 76), jI p0, jI p1]))) (j := 2) (v := jI 0) (z := p1) rfl) rfl
  intro lv 
  cases e
  exact ey_retv (cd_267 rfl) mt_267 rfl
theorem cd_265 {pc : Nat} {i : Instr × Nat} (h : mm_lk mm_c265 pc = some i) : mm_cd 265 pc = some i := h
theorem mt_265 : mm_MT 265 = (12, 5, none, 2, 0, []) := rfl
set_option maxRecDepth 100000 in
theorem jk_265_s94 {L : Nat} {xs : Nat → Int32} {b : jH} (hb : 152 ≤ b.1) (h6 : b.1 ≤ 1000000) {x1 : Int} {x2 : Int} {x3 : Int} {x4 : Int} {m : jM} {o : ((Int × jM) ⊕ jM)} {r : mm_R} (e : jd_265_s94 x1 x2 x3 x4 m = some o) (K : jsm (fun s => (∀ lv : jL, lv 0 = some (jR (some 76)) → lv 1 = some (jI x1) → lv 2 = some (jI x2) → lv 3 = some (jI x3) → lv 4 = some (jI s.1) → ey (mm_xt L xs) 6 265 94 lv [] (jhm b s.2) r)) (fun x => (∀ lv : jL, lv 0 = some (jR (some 76)) → lv 1 = some (jI x1) → lv 2 = some (jI x2) → lv 3 = some (jI x3) → ey (mm_xt L xs) 6 265 115 lv [] (jhm b x) r)) o) : ∀ lv : jL, lv 0 = some (jR (some 76)) → lv 1 = some (jI x1) → lv 2 = some (jI x2) → lv 3 = some (jI x3) → lv 4 = some (jI x4) → ey (mm_xt L xs) 6 265 94 lv [] (jhm b m) r := by
  intro lv f0 f1 f2 f3 f4
  unfold jd_265_s94 at e
  refine ey_iload (cd_265 rfl) f4 ?_
  refine ey_bipush (cd_265 rfl) (by decide) ?_
  by_cases q24 : 96 ≤ (jw x4)
  · rw [if_pos q24] at e
    refine ey_cge (cd_265 rfl) rfl rfl (show jw 96 = 96 from by decide) q24 ?_
    cases e
    exact K lv f0 f1 f2 f3
  · rw [if_neg q24] at e
    refine ey_nge (cd_265 rfl) rfl rfl (show jw 96 = 96 from by decide) q24 ?_
    refine ey_aload_n (cd_265 rfl) f0 ?_
    refine ey_getf_r (cd_265 rfl) mt_265 rfl rfl rfl (jhm_gr (q := 115) hb rfl) ?_
    refine ey_iload (cd_265 rfl) f4 ?_
    refine ey_iconst (cd_265 rfl) ?_
    obtain ⟨m25, e26, e⟩ := jbind e
    refine ey_iast (cd_265 rfl) (jhm_ta hb (by decide) rfl e26) ?_
    refine ey_iinc (cd_265 rfl) mt_265 rfl f4 ?_
    refine ey_goto (cd_265 rfl) rfl ?_
    cases e
    exact K (jup lv 4 (jI (x4 + 1))) f0 f1 f2 (jup_pi (lv := lv) (j := 3) (v := jI (x4 + 1)) (z := x3) f3) rfl
theorem jk_265_l94 {L : Nat} {xs : Nat → Int32} {b : jH} (hb : 152 ≤ b.1) (h6 : b.1 ≤ 1000000) {x1 : Int} {x2 : Int} {x3 : Int} {x4 : Int} {m : jM} {x : jM} {r : mm_R} (e : jd_265_l94 x1 x2 x3 x4 m = some x) (K : (∀ lv : jL, lv 0 = some (jR (some 76)) → lv 1 = some (jI x1) → lv 2 = some (jI x2) → lv 3 = some (jI x3) → ey (mm_xt L xs) 6 265 115 lv [] (jhm b x) r)) : ∀ lv : jL, lv 0 = some (jR (some 76)) → lv 1 = some (jI x1) → lv 2 = some (jI x2) → lv 3 = some (jI x3) → lv 4 = some (jI x4) → ey (mm_xt L xs) 6 265 94 lv [] (jhm b m) r := by
  unfold jd_265_l94 at e
  exact jlp_ok2 (P := fun s => ∀ lv : jL, lv 0 = some (jR (some 76)) → lv 1 = some (jI x1) → lv 2 = some (jI x2) → lv 3 = some (jI x3) → lv 4 = some (jI s.1) → ey (mm_xt L xs) 6 265 94 lv [] (jhm b s.2) r) (Q := fun x => (∀ lv : jL, lv 0 = some (jR (some 76)) → lv 1 = some (jI x1) → lv 2 = some (jI x2) → lv 3 = some (jI x3) → ey (mm_xt L xs) 6 265 115 lv [] (jhm b x) r)) (fun s q hq hk => jk_265_s94 hb h6 hq hk) jfu _ x e K
set_option maxRecDepth 100000 in
theorem jk_265_b280 {L : Nat} {xs : Nat → Int32} {b : jH} (hb : 152 ≤ b.1) (h6 : b.1 ≤ 1000000) {x1 : Int} {x2 : Int} {x3 : Int} {m : jM} {o : jM} (e : jd_265_b280 x1 x2 x3 m = some o) : ∀ lv : jL, lv 0 = some (jR (some 76)) → lv 1 = some (jI x1) → lv 2 = some (jI x2) → lv 3 = some (jI x3) → ey (mm_xt L xs) 6 265 280 lv [] (jhm b m) (.inl (none, jaH (jhm b o))) := by
  intro lv f0 f1 f2 f3
  unfold jd_265_b280 at e
  refine ey_aload_n (cd_265 rfl) f0 ?_
  refine ey_getf_i (z := (m 76 52)) (cd_265 rfl) mt_265 rfl rfl rfl (jhm_gi hb 52) ?_
  by_cases q32 : (jw (m 76 52)) ≤ 0
  · rw [if_pos q32] at e
    refine ey_zle (cd_265 rfl) rfl rfl q32 ?_
    refine ey_aload_n (cd_265 rfl) f0 ?_
    refine ey_iload_n (cd_265 rfl) f1 ?_
    refine ey_iload_n (cd_265 rfl) f2 ?_
    refine ey_aload_n (cd_265 rfl) f0 ?_
    refine ey_getf_i (z := (m 76 51)) (cd_265 rfl) mt_265 rfl rfl rfl (jhm_gi hb 51) ?_
    refine ey_iload_n (cd_265 rfl) f3 ?_
    refine ey_isub (cd_265 rfl) ?_
    obtain ⟨m33, e34, e⟩ := jbind e
    refine ey_cv (s0 := [jI ((m 76 51) - x3), jI x2, jI x1, jR (some 76)]) (s1 := []) (st' := []) (cd_265 rfl) mt_265 mt_266 rfl rfl rfl (jhm_is hb) rfl (jsml_s rfl) rfl (mm_Runs.up (d := 1) (by decide) (ok_266 hb h6 e34)) ?_
    refine ey_aload_n (cd_265 rfl) f0 ?_
    refine ey_iload_n (cd_265 rfl) f1 ?_
    refine ey_iload_n (cd_265 rfl) f2 ?_
    refine ey_aload_n (cd_265 rfl) f0 ?_
    refine ey_getf_i (z := (m33 76 61)) (cd_265 rfl) mt_265 rfl rfl rfl (jhm_gi hb 61) ?_
    refine ey_aload_n (cd_265 rfl) f0 ?_
    refine ey_getf_i (z := (m33 76 62)) (cd_265 rfl) mt_265 rfl rfl rfl (jhm_gi hb 62) ?_
    refine ey_aload_n (cd_265 rfl) f0 ?_
    refine ey_getf_i (z := (m33 76 63)) (cd_265 rfl) mt_265 rfl rfl rfl (jhm_gi hb 63) ?_
    refine ey_aload_n (cd_265 rfl) f0 ?_
    refine ey_getf_i (z := (m33 76 64)) (cd_265 rfl) mt_265 rfl rfl rfl (jhm_gi hb 64) ?_
    refine ey_aload_n (cd_265 rfl) f0 ?_
    refine ey_getf_i (z := (m33 76 65)) (cd_265 rfl) mt_265 rfl rfl rfl (jhm_gi hb 65) ?_
    obtain ⟨m35, e36, e⟩ := jbind e
    refine ey_cv (s0 := [jI (m33 76 65), jI (m33 76 64), jI (m33 76 63), jI (m33 76 62), jI (m33 76 61), jI x2, jI x1, jR (some 76)]) (s1 := []) (st' := []) (cd_265 rfl) mt_265 mt_247 rfl rfl rfl (jhm_is hb) rfl (jsml_s rfl) rfl (ok_247 hb h6 e36) ?_
    refine ey_aload_n (cd_265 rfl) f0 ?_
    refine ey_iload_n (cd_265 rfl) f1 ?_
    refine ey_iload_n (cd_265 rfl) f2 ?_
    obtain ⟨m37, e38, e⟩ := jbind e
    refine ey_cv (s0 := [jI x2, jI x1, jR (some 76)]) (s1 := []) (st' := []) (cd_265 rfl) mt_265 mt_267 rfl rfl rfl (jhm_is hb) rfl (jsml_s rfl) rfl (mm_Runs.up (d := 3) (by decide) (ok_267 hb h6 e38)) ?_
    cases e
    exact ey_retv (cd_265 rfl) mt_265 rfl
  · rw [if_neg q32] at e
    refine ey_yle (cd_265 rfl) rfl rfl q32 ?_
    cases e
    exact ey_retv (cd_265 rfl) mt_265 rfl
set_option maxRecDepth 100000 in
theorem jk_265_s248 {L : Nat} {xs : Nat → Int32} {b : jH} (hb : 152 ≤ b.1) (h6 : b.1 ≤ 1000000) {x1 : Int} {x2 : Int} {x3 : Int} {x4 : Int} {m : jM} {o : ((Int × jM) ⊕ jM)} {r : mm_R} (e : jd_265_s248 x1 x2 x3 x4 m = some o) (K : jsm (fun s => (∀ lv : jL, lv 0 = some (jR (some 76)) → lv 1 = some (jI x1) → lv 2 = some (jI x2) → lv 3 = some (jI x3) → lv 4 = some (jI s.1) → ey (mm_xt L xs) 6 265 248 lv [] (jhm b s.2) r)) (fun x => (∀ lv : jL, lv 0 = some (jR (some 76)) → lv 1 = some (jI x1) → lv 2 = some (jI x2) → lv 3 = some (jI x3) → ey (mm_xt L xs) 6 265 280 lv [] (jhm b x) r)) o) : ∀ lv : jL, lv 0 = some (jR (some 76)) → lv 1 = some (jI x1) → lv 2 = some (jI x2) → lv 3 = some (jI x3) → lv 4 = some (jI x4) → ey (mm_xt L xs) 6 265 248 lv [] (jhm b m) r := by
  intro lv f0 f1 f2 f3 f4
  unfold jd_265_s248 at e
  refine ey_iload (cd_265 rfl) f4 ?_
  refine ey_bipush (cd_265 rfl) (by decide) ?_
  by_cases q68 : 6 ≤ (jw x4)
  · rw [if_pos q68] at e
    refine ey_cge (cd_265 rfl) rfl rfl (show jw 6 = 6 from by decide) q68 ?_
    cases e
    exact K lv f0 f1 f2 f3
  · rw [if_neg q68] at e
    refine ey_nge (cd_265 rfl) rfl rfl (show jw 6 = 6 from by decide) q68 ?_
    refine ey_aload_n (cd_265 rfl) f0 ?_
    refine ey_getf_i (z := (m 76 52)) (cd_265 rfl) mt_265 rfl rfl rfl (jhm_gi hb 52) ?_
    by_cases q69 : (jw (m 76 52)) = 0
    · rw [if_pos q69] at e
      refine ey_yne (cd_265 rfl) rfl rfl (fun w => w q69) ?_
      refine ey_aload_n (cd_265 rfl) f0 ?_
      refine ey_iload (cd_265 rfl) f4 ?_
      refine ey_aload_n (cd_265 rfl) f0 ?_
      refine ey_getf_r (cd_265 rfl) mt_265 rfl rfl rfl (jhm_gr (q := 104) hb rfl) ?_
      refine ey_iload_n (cd_265 rfl) f1 ?_
      obtain ⟨v70, e71, e⟩ := jbind e
      refine ey_iald (cd_265 rfl) (jhm_ai hb h6 (by decide) rfl e71) ?_
      obtain ⟨m72, e73, e⟩ := jbind e
      refine ey_cv (s0 := [jI v70, jI x4, jR (some 76)]) (s1 := []) (st' := []) (cd_265 rfl) mt_265 mt_258 rfl rfl rfl (jhm_is hb) rfl (jsml_s rfl) rfl (mm_Runs.up (d := 4) (by decide) (ok_258 hb h6 e73)) ?_
      refine ey_iinc (cd_265 rfl) mt_265 rfl f4 ?_
      refine ey_goto (cd_265 rfl) rfl ?_
      cases e
      exact K (jup lv 4 (jI (x4 + 1))) f0 f1 f2 (jup_pi (lv := lv) (j := 3) (v := jI (x4 + 1)) (z := x3) f3) rfl
    · rw [if_neg q69] at e
      refine ey_zne (cd_265 rfl) rfl rfl q69 ?_
      cases e
      exact K lv f0 f1 f2 f3
theorem jk_265_l248 {L : Nat} {xs : Nat → Int32} {b : jH} (hb : 152 ≤ b.1) (h6 : b.1 ≤ 1000000) {x1 : Int} {x2 : Int} {x3 : Int} {x4 : Int} {m : jM} {x : jM} {r : mm_R} (e : jd_265_l248 x1 x2 x3 x4 m = some x) (K : (∀ lv : jL, lv 0 = some (jR (some 76)) → lv 1 = some (jI x1) → lv 2 = some (jI x2) → lv 3 = some (jI x3) → ey (mm_xt L xs) 6 265 280 lv [] (jhm b x) r)) : ∀ lv : jL, lv 0 = some (jR (some 76)) → lv 1 = some (jI x1) → lv 2 = some (jI x2) → lv 3 = some (jI x3) → lv 4 = some (jI x4) → ey (mm_xt L xs) 6 265 248 lv [] (jhm b m) r := by
  unfold jd_265_l248 at e
  exact jlp_ok2 (P := fun s => ∀ lv : jL, lv 0 = some (jR (some 76)) → lv 1 = some (jI x1) → lv 2 = some (jI x2) → lv 3 = some (jI x3) → lv 4 = some (jI s.1) → ey (mm_xt L xs) 6 265 248 lv [] (jhm b s.2) r) (Q := fun x => (∀ lv : jL, lv 0 = some (jR (some 76)) → lv 1 = some (jI x1) → lv 2 = some (jI x2) → lv 3 = some (jI x3) → ey (mm_xt L xs) 6 265 280 lv [] (jhm b x) r)) (fun s q hq hk => jk_265_s248 hb h6 hq hk) jfu _ x e K
set_option maxRecDepth 100000 in
theorem jk_265_b245 {L : Nat} {xs : Nat → Int32} {b : jH} (hb : 152 ≤ b.1) (h6 : b.1 ≤ 1000000) {x1 : Int} {x2 : Int} {x3 : Int} {m : jM} {o : jM} (e : jd_265_b245 x1 x2 x3 m = some o) : ∀ lv : jL, lv 0 = some (jR (some 76)) → lv 1 = some (jI x1) → lv 2 = some (jI x2) → lv 3 = some (jI x3) → ey (mm_xt L xs) 6 265 245 lv [] (jhm b m) (.inl (none, jaH (jhm b o))) := by
  intro lv f0 f1 f2 f3
  unfold jd_265_b245 at e
  refine ey_iconst (cd_265 rfl) ?_
  refine ey_istore (cd_265 rfl) mt_265 rfl ?_
  obtain ⟨x74, e75, e⟩ := jbind e
  refine jk_265_l248 hb h6 e75 ?_ (jup lv 4 (jI 0)) f0 f1 f2 (jup_pi (lv := lv) (j := 3) (v := jI 0) (z := x3) f3) rfl
  intro lv g0 g1 g2 g3
  exact jk_265_b280 hb h6 e lv g0 g1 g2 g3
set_option maxRecDepth 100000 in
theorem jk_265_b208 {L : Nat} {xs : Nat → Int32} {b : jH} (hb : 152 ≤ b.1) (h6 : b.1 ≤ 1000000) {x1 : Int} {x2 : Int} {x3 : Int} {m : jM} {o : jM} (e : jd_265_b208 x1 x2 x3 m = some o) : ∀ lv : jL, lv 0 = some (jR (some 76)) → lv 1 = some (jI x1) → lv 2 = some (jI x2) → lv 3 = some (jI x3) → ey (mm_xt L xs) 6 265 208 lv [] (jhm b m) (.inl (none, jaH (jhm b o))) := by
  intro lv f0 f1 f2 f3
  unfold jd_265_b208 at e
  refine ey_aload_n (cd_265 rfl) f0 ?_
  refine ey_aload_n (cd_265 rfl) f0 ?_
  refine ey_aload_n (cd_265 rfl) f0 ?_
  refine ey_iload_n (cd_265 rfl) f1 ?_
  refine ey_iload_n (cd_265 rfl) f2 ?_
  refine ey_iconst (cd_265 rfl) ?_
  obtain ⟨v55, e56, e⟩ := jbind e
  refine ey_cv (s0 := [jI 3, jI x2, jI x1, jR (some 76), jR (some 76), jR (some 76)]) (s1 := [jR (some 76), jR (some 76)]) (st' := [jI v55, jR (some 76), jR (some 76)]) (cd_265 rfl) mt_265 mt_260 rfl rfl rfl (jhm_is hb) rfl (jsml_s rfl) rfl (mm_Runs.up (d := 2) (by decide) (ok_260 hb h6 e56)) ?_
  obtain ⟨q57, e58, e⟩ := jbind e
  refine ey_cv (s0 := [jI v55, jR (some 76), jR (some 76)]) (s1 := [jR (some 76)]) (st' := [jI q57.1, jR (some 76)]) (cd_265 rfl) mt_265 mt_263 rfl rfl rfl (jhm_is hb) rfl (jsml_s rfl) rfl (mm_Runs.up (d := 4) (by decide) (ok_263 hb h6 e58)) ?_
  obtain ⟨m59, e60, e⟩ := jbind e
  refine ey_putf_i (cd_265 rfl) mt_265 rfl rfl rfl (jhm_pi' (k := 64) hb e60) ?_
  refine ey_aload_n (cd_265 rfl) f0 ?_
  refine ey_getf_i (z := (m59 76 52)) (cd_265 rfl) mt_265 rfl rfl rfl (jhm_gi hb 52) ?_
  by_cases q61 : (jw (m59 76 52)) = 0
  · rw [if_pos q61] at e
    refine ey_yne (cd_265 rfl) rfl rfl (fun w => w q61) ?_
    refine ey_aload_n (cd_265 rfl) f0 ?_
    refine ey_aload_n (cd_265 rfl) f0 ?_
    refine ey_aload_n (cd_265 rfl) f0 ?_
    refine ey_iload_n (cd_265 rfl) f1 ?_
    refine ey_iload_n (cd_265 rfl) f2 ?_
    refine ey_iconst (cd_265 rfl) ?_
    obtain ⟨v62, e63, e⟩ := jbind e
    refine ey_cv (s0 := [jI 4, jI x2, jI x1, jR (some 76), jR (some 76), jR (some 76)]) (s1 := [jR (some 76), jR (some 76)]) (st' := [jI v62, jR (some 76), jR (some 76)]) (cd_265 rfl) mt_265 mt_260 rfl rfl rfl (jhm_is hb) rfl (jsml_s rfl) rfl (mm_Runs.up (d := 2) (by decide) (ok_260 hb h6 e63)) ?_
    obtain ⟨q64, e65, e⟩ := jbind e
    refine ey_cv (s0 := [jI v62, jR (some 76), jR (some 76)]) (s1 := [jR (some 76)]) (st' := [jI q64.1, jR (some 76)]) (cd_265 rfl) mt_265 mt_263 rfl rfl rfl (jhm_is hb) rfl (jsml_s rfl) rfl (mm_Runs.up (d := 4) (by decide) (ok_263 hb h6 e65)) ?_
    obtain ⟨m66, e67, e⟩ := jbind e
    refine ey_putf_i (cd_265 rfl) mt_265 rfl rfl rfl (jhm_pi' (k := 65) hb e67) ?_
    exact jk_265_b245 hb h6 e lv f0 f1 f2 f3
  · rw [if_neg q61] at e
    refine ey_zne (cd_265 rfl) rfl rfl q61 ?_
    exact jk_265_b245 hb h6 e lv f0 f1 f2 f3
set_option maxRecDepth 100000 in
theorem jk_265_b185 {L : Nat} {xs : Nat → Int32} {b : jH} (hb : 152 ≤ b.1) (h6 : b.1 ≤ 1000000) {x1 : Int} {x2 : Int} {x3 : Int} {m : jM} {o : jM} (e : jd_265_b185 x1 x2 x3 m = some o) : ∀ lv : jL, lv 0 = some (jR (some 76)) → lv 1 = some (jI x1) → lv 2 = some (jI x2) → lv 3 = some (jI x3) → ey (mm_xt L xs) 6 265 185 lv [] (jhm b m) (.inl (none, jaH (jhm b o))) := by
  intro lv f0 f1 f2 f3
  unfold jd_265_b185 at e
  refine ey_aload_n (cd_265 rfl) f0 ?_
  refine ey_getf_i (z := (m 76 52)) (cd_265 rfl) mt_265 rfl rfl rfl (jhm_gi hb 52) ?_
  by_cases q53 : (jw (m 76 52)) = 0
  · rw [if_pos q53] at e
    refine ey_yne (cd_265 rfl) rfl rfl (fun w => w q53) ?_
    refine ey_aload_n (cd_265 rfl) f0 ?_
    refine ey_getf_i (z := (m 76 61)) (cd_265 rfl) mt_265 rfl rfl rfl (jhm_gi hb 61) ?_
    refine ey_iconst (cd_265 rfl) ?_
    by_cases q54 : (jw (m 76 61)) = 4
    · rw [if_pos q54] at e
      refine ey_ceq (cd_265 rfl) rfl rfl (show jw 4 = 4 from by decide) q54 ?_
      exact jk_265_b208 hb h6 e lv f0 f1 f2 f3
    · rw [if_neg q54] at e
      refine ey_neq (cd_265 rfl) rfl rfl (show jw 4 = 4 from by decide) q54 ?_
      refine ey_aload_n (cd_265 rfl) f0 ?_
      refine ey_getf_i (z := (m 76 61)) (cd_265 rfl) mt_265 rfl rfl rfl (jhm_gi hb 61) ?_
      refine ey_iconst (cd_265 rfl) ?_
      by_cases q76 : (jw (m 76 61)) = 5
      · rw [if_pos q76] at e
        refine ey_nne (cd_265 rfl) rfl rfl (show jw 5 = 5 from by decide) (fun w => w q76) ?_
        exact jk_265_b208 hb h6 e lv f0 f1 f2 f3
      · rw [if_neg q76] at e
        refine ey_cne (cd_265 rfl) rfl rfl (show jw 5 = 5 from by decide) q76 ?_
        exact jk_265_b245 hb h6 e lv f0 f1 f2 f3
  · rw [if_neg q53] at e
    refine ey_zne (cd_265 rfl) rfl rfl q53 ?_
    exact jk_265_b245 hb h6 e lv f0 f1 f2 f3
set_option maxRecDepth 100000 in
theorem jk_265_b148 {L : Nat} {xs : Nat → Int32} {b : jH} (hb : 152 ≤ b.1) (h6 : b.1 ≤ 1000000) {x1 : Int} {x2 : Int} {x3 : Int} {m : jM} {o : jM} (e : jd_265_b148 x1 x2 x3 m = some o) : ∀ lv : jL, lv 0 = some (jR (some 76)) → lv 1 = some (jI x1) → lv 2 = some (jI x2) → lv 3 = some (jI x3) → ey (mm_xt L xs) 6 265 148 lv [] (jhm b m) (.inl (none, jaH (jhm b o))) := by
  intro lv f0 f1 f2 f3
  unfold jd_265_b148 at e
  refine ey_aload_n (cd_265 rfl) f0 ?_
  refine ey_aload_n (cd_265 rfl) f0 ?_
  refine ey_aload_n (cd_265 rfl) f0 ?_
  refine ey_iload_n (cd_265 rfl) f1 ?_
  refine ey_iload_n (cd_265 rfl) f2 ?_
  refine ey_iconst (cd_265 rfl) ?_
  obtain ⟨v40, e41, e⟩ := jbind e
  refine ey_cv (s0 := [jI 1, jI x2, jI x1, jR (some 76), jR (some 76), jR (some 76)]) (s1 := [jR (some 76), jR (some 76)]) (st' := [jI v40, jR (some 76), jR (some 76)]) (cd_265 rfl) mt_265 mt_260 rfl rfl rfl (jhm_is hb) rfl (jsml_s rfl) rfl (mm_Runs.up (d := 2) (by decide) (ok_260 hb h6 e41)) ?_
  obtain ⟨q42, e43, e⟩ := jbind e
  refine ey_cv (s0 := [jI v40, jR (some 76), jR (some 76)]) (s1 := [jR (some 76)]) (st' := [jI q42.1, jR (some 76)]) (cd_265 rfl) mt_265 mt_263 rfl rfl rfl (jhm_is hb) rfl (jsml_s rfl) rfl (mm_Runs.up (d := 4) (by decide) (ok_263 hb h6 e43)) ?_
  obtain ⟨m44, e45, e⟩ := jbind e
  refine ey_putf_i (cd_265 rfl) mt_265 rfl rfl rfl (jhm_pi' (k := 62) hb e45) ?_
  refine ey_aload_n (cd_265 rfl) f0 ?_
  refine ey_getf_i (z := (m44 76 52)) (cd_265 rfl) mt_265 rfl rfl rfl (jhm_gi hb 52) ?_
  by_cases q46 : (jw (m44 76 52)) = 0
  · rw [if_pos q46] at e
    refine ey_yne (cd_265 rfl) rfl rfl (fun w => w q46) ?_
    refine ey_aload_n (cd_265 rfl) f0 ?_
    refine ey_aload_n (cd_265 rfl) f0 ?_
    refine ey_aload_n (cd_265 rfl) f0 ?_
    refine ey_iload_n (cd_265 rfl) f1 ?_
    refine ey_iload_n (cd_265 rfl) f2 ?_
    refine ey_iconst (cd_265 rfl) ?_
    obtain ⟨v47, e48, e⟩ := jbind e
    refine ey_cv (s0 := [jI 2, jI x2, jI x1, jR (some 76), jR (some 76), jR (some 76)]) (s1 := [jR (some 76), jR (some 76)]) (st' := [jI v47, jR (some 76), jR (some 76)]) (cd_265 rfl) mt_265 mt_260 rfl rfl rfl (jhm_is hb) rfl (jsml_s rfl) rfl (mm_Runs.up (d := 2) (by decide) (ok_260 hb h6 e48)) ?_
    obtain ⟨q49, e50, e⟩ := jbind e
    refine ey_cv (s0 := [jI v47, jR (some 76), jR (some 76)]) (s1 := [jR (some 76)]) (st' := [jI q49.1, jR (some 76)]) (cd_265 rfl) mt_265 mt_263 rfl rfl rfl (jhm_is hb) rfl (jsml_s rfl) rfl (mm_Runs.up (d := 4) (by decide) (ok_263 hb h6 e50)) ?_
    obtain ⟨m51, e52, e⟩ := jbind e
    refine ey_putf_i (cd_265 rfl) mt_265 rfl rfl rfl (jhm_pi' (k := 63) hb e52) ?_
    exact jk_265_b185 hb h6 e lv f0 f1 f2 f3
  · rw [if_neg q46] at e
    refine ey_zne (cd_265 rfl) rfl rfl q46 ?_
    exact jk_265_b185 hb h6 e lv f0 f1 f2 f3
set_option maxRecDepth 100000 in
theorem jk_265_b66 {L : Nat} {xs : Nat → Int32} {b : jH} (hb : 152 ≤ b.1) (h6 : b.1 ≤ 1000000) {x1 : Int} {x2 : Int} {x3 : Int} {m : jM} {o : jM} (e : jd_265_b66 x1 x2 x3 m = some o) : ∀ lv : jL, lv 0 = some (jR (some 76)) → lv 1 = some (jI x1) → lv 2 = some (jI x2) → lv 3 = some (jI x3) → ey (mm_xt L xs) 6 265 66 lv [] (jhm b m) (.inl (none, jaH (jhm b o))) := by
  intro lv f0 f1 f2 f3
  unfold jd_265_b66 at e
  refine ey_aload_n (cd_265 rfl) f0 ?_
  refine ey_getf_i (z := (m 76 52)) (cd_265 rfl) mt_265 rfl rfl rfl (jhm_gi hb 52) ?_
  by_cases q19 : (jw (m 76 52)) ≤ 0
  · rw [if_pos q19] at e
    refine ey_zle (cd_265 rfl) rfl rfl q19 ?_
    refine ey_aload_n (cd_265 rfl) f0 ?_
    refine ey_aload_n (cd_265 rfl) f0 ?_
    refine ey_getf_r (cd_265 rfl) mt_265 rfl rfl rfl (jhm_gr (q := 102) hb rfl) ?_
    refine ey_iload_n (cd_265 rfl) f1 ?_
    obtain ⟨v20, e21, e⟩ := jbind e
    refine ey_iald (cd_265 rfl) (jhm_ai hb h6 (by decide) rfl e21) ?_
    refine ey_aload_n (cd_265 rfl) f0 ?_
    refine ey_getf_i (z := (m 76 60)) (cd_265 rfl) mt_265 rfl rfl rfl (jhm_gi hb 60) ?_
    refine ey_cs (s0 := [jI (m 76 60), jI v20, jR (some 76)]) (s1 := [jR (some 76)]) (st' := [jI (jd_261 v20 (m 76 60)), jR (some 76)]) (cd_265 rfl) mt_265 mt_261 rfl (by decide) rfl rfl (jsml_s rfl) rfl (mm_Runs.up (d := 1) (by decide) (ok_261 )) ?_
    obtain ⟨m22, e23, e⟩ := jbind e
    refine ey_putf_i (cd_265 rfl) mt_265 rfl rfl rfl (jhm_pi' (k := 61) hb e23) ?_
    refine ey_iconst (cd_265 rfl) ?_
    refine ey_istore (cd_265 rfl) mt_265 rfl ?_
    obtain ⟨x27, e28, e⟩ := jbind e
    refine jk_265_l94 hb h6 e28 ?_ (jup lv 4 (jI 0)) f0 f1 f2 (jup_pi (lv := lv) (j := 3) (v := jI 0) (z := x3) f3) rfl
    intro lv g0 g1 g2 g3
    refine ey_aload_n (cd_265 rfl) g0 ?_
    refine ey_getf_i (z := (x27 76 61)) (cd_265 rfl) mt_265 rfl rfl rfl (jhm_gi hb 61) ?_
    refine ey_iconst (cd_265 rfl) ?_
    by_cases q29 : (jw (x27 76 61)) = (-1)
    · rw [if_pos q29] at e
      refine ey_nne (cd_265 rfl) rfl rfl (show jw (-1) = (-1) from by decide) (fun w => w q29) ?_
      refine ey_aload_n (cd_265 rfl) g0 ?_
      refine ey_iload_n (cd_265 rfl) g1 ?_
      refine ey_iload_n (cd_265 rfl) g2 ?_
      obtain ⟨m30, e31, e⟩ := jbind e
      refine ey_cv (s0 := [jI x2, jI x1, jR (some 76)]) (s1 := []) (st' := []) (cd_265 rfl) mt_265 mt_264 rfl rfl rfl (jhm_is hb) rfl (jsml_s rfl) rfl (mm_Runs.up (d := 3) (by decide) (ok_264 hb h6 e31)) ?_
      refine ey_goto (cd_265 rfl) rfl ?_
      exact jk_265_b280 hb h6 e lv g0 g1 g2 g3
    · rw [if_neg q29] at e
      refine ey_cne (cd_265 rfl) rfl rfl (show jw (-1) = (-1) from by decide) q29 ?_
      refine ey_aload_n (cd_265 rfl) g0 ?_
      refine ey_getf_i (z := (x27 76 61)) (cd_265 rfl) mt_265 rfl rfl rfl (jhm_gi hb 61) ?_
      refine ey_iconst (cd_265 rfl) ?_
      by_cases q39 : (jw (x27 76 61)) = 3
      · rw [if_pos q39] at e
        refine ey_ceq (cd_265 rfl) rfl rfl (show jw 3 = 3 from by decide) q39 ?_
        exact jk_265_b148 hb h6 e lv g0 g1 g2 g3
      · rw [if_neg q39] at e
        refine ey_neq (cd_265 rfl) rfl rfl (show jw 3 = 3 from by decide) q39 ?_
        refine ey_aload_n (cd_265 rfl) g0 ?_
        refine ey_getf_i (z := (x27 76 61)) (cd_265 rfl) mt_265 rfl rfl rfl (jhm_gi hb 61) ?_
        refine ey_iconst (cd_265 rfl) ?_
        by_cases q77 : (jw (x27 76 61)) = 5
        · rw [if_pos q77] at e
          refine ey_nne (cd_265 rfl) rfl rfl (show jw 5 = 5 from by decide) (fun w => w q77) ?_
          exact jk_265_b148 hb h6 e lv g0 g1 g2 g3
        · rw [if_neg q77] at e
          refine ey_cne (cd_265 rfl) rfl rfl (show jw 5 = 5 from by decide) q77 ?_
          exact jk_265_b185 hb h6 e lv g0 g1 g2 g3
  · rw [if_neg q19] at e
    refine ey_yle (cd_265 rfl) rfl rfl q19 ?_
    cases e
    exact ey_retv (cd_265 rfl) mt_265 rfl
set_option maxRecDepth 100000 in
theorem ok_265 {L : Nat} {xs : Nat → Int32} {b : jH} (hb : 152 ≤ b.1) (h6 : b.1 ≤ 1000000) {p0 : Int} {p1 : Int} {m : jM} {o : jM} (e : jd_265 p0 p1 m = some o) : mm_Runs (mm_xt L xs) 7 265 ([jR (some 76), jI p0, jI p1].map jcv) (jaH (jhm b m)) (.inl (none, jaH (jhm b o))) := by
  refine ey_run0 _ mt_265 (jsl_s rfl) ?_
  unfold jd_265 at e
  refine ey_aload_n (cd_265 rfl) rfl ?_
  refine ey_getf_i (z := (m 76 51)) (cd_265 rfl) mt_265 rfl rfl rfl (jhm_gi hb 51) ?_
  refine ey_istore_n (cd_265 rfl) mt_265 rfl ?_
  refine ey_aload_n (cd_265 rfl) rfl ?_
  refine ey_iconst (cd_265 rfl) ?_
  obtain ⟨m1, e2, e⟩ := jbind e
  refine ey_putf_i (cd_265 rfl) mt_265 rfl rfl rfl (jhm_pi' (k := 59) hb e2) ?_
  refine ey_aload_n (cd_265 rfl) rfl ?_
  refine ey_iconst (cd_265 rfl) ?_
  obtain ⟨m3, e4, e⟩ := jbind e
  refine ey_putf_i (cd_265 rfl) mt_265 rfl rfl rfl (jhm_pi' (k := 62) hb e4) ?_
  refine ey_aload_n (cd_265 rfl) rfl ?_
  refine ey_iconst (cd_265 rfl) ?_
  obtain ⟨m5, e6, e⟩ := jbind e
  refine ey_putf_i (cd_265 rfl) mt_265 rfl rfl rfl (jhm_pi' (k := 63) hb e6) ?_
  refine ey_aload_n (cd_265 rfl) rfl ?_
  refine ey_iconst (cd_265 rfl) ?_
  obtain ⟨m7, e8, e⟩ := jbind e
  refine ey_putf_i (cd_265 rfl) mt_265 rfl rfl rfl (jhm_pi' (k := 64) hb e8) ?_
  refine ey_aload_n (cd_265 rfl) rfl ?_
  refine ey_iconst (cd_265 rfl) ?_
  obtain ⟨m9, e10, e⟩ := jbind e
  refine ey_putf_i (cd_265 rfl) mt_265 rfl rfl rfl (jhm_pi' (k := 65) hb e10) ?_
  refine ey_aload_n (cd_265 rfl) rfl ?_
  refine ey_aload_n (cd_265 rfl) rfl ?_
  obtain ⟨q11, e12, e⟩ := jbind e
  refine ey_cv (s0 := [jR (some 76), jR (some 76)]) (s1 := [jR (some 76)]) (st' := [jI q11.1, jR (some 76)]) (cd_265 rfl) mt_265 mt_229 rfl rfl rfl (jhm_is hb) rfl (jsml_s rfl) rfl (mm_Runs.up (d := 2) (by decide) (ok_229 hb h6 e12)) ?_
  obtain ⟨m13, e14, e⟩ := jbind e
  refine ey_putf_i (cd_265 rfl) mt_265 rfl rfl rfl (jhm_pi' (k := 60) hb e14) ?_
  refine ey_aload_n (cd_265 rfl) rfl ?_
  refine ey_getf_i (z := (m13 76 52)) (cd_265 rfl) mt_265 rfl rfl rfl (jhm_gi hb 52) ?_
  by_cases q15 : (jw (m13 76 52)) = 0
  · rw [if_pos q15] at e
    refine ey_yne (cd_265 rfl) rfl rfl (fun w => w q15) ?_
    refine ey_aload_n (cd_265 rfl) rfl ?_
    refine ey_getf_i (z := (m13 76 60)) (cd_265 rfl) mt_265 rfl rfl rfl (jhm_gi hb 60) ?_
    refine ey_aload_n (cd_265 rfl) rfl ?_
    refine ey_getf_r (cd_265 rfl) mt_265 rfl rfl rfl (jhm_gr (q := 102) hb rfl) ?_
    refine ey_iload_n (cd_265 rfl) rfl ?_
    obtain ⟨v16, e17, e⟩ := jbind e
    refine ey_iald (cd_265 rfl) (jhm_ai hb h6 (by decide) rfl e17) ?_
    refine ey_cs (s0 := [jI v16, jI (m13 76 60)]) (s1 := [jI (m13 76 60)]) (st' := [jI (jd_262 v16), jI (m13 76 60)]) (cd_265 rfl) mt_265 mt_262 rfl (by decide) rfl rfl (jsml_s rfl) rfl (mm_Runs.up (d := 1) (by decide) (ok_262 )) ?_
    by_cases q18 : (jw (m13 76 60)) < (jw (jd_262 v16))
    · rw [if_pos q18] at e
      refine ey_clt (cd_265 rfl) rfl rfl rfl q18 ?_
      exact jk_265_b66 hb h6 e (jup (jlf (jla 0 [jR (some 76), jI p0, jI p1])) 3 (jI (m 76 51))) rfl rfl (jup_pi (lv := (jlf (jla 0 [jR (some 76), jI p0, jI p1]))) (j := 2) (v := jI (m 76 51)) (z := p1) rfl) rfl
    · rw [if_neg q18] at e
      refine ey_nlt (cd_265 rfl) rfl rfl rfl q18 ?_
      refine ey_aload_n (cd_265 rfl) rfl ?_
      refine ey_iconst (cd_265 rfl) ?_
      obtain ⟨m78, e79, e⟩ := jbind e
      refine ey_cv (s0 := [jI 2, jR (some 76)]) (s1 := []) (st' := []) (cd_265 rfl) mt_265 mt_231 rfl rfl rfl (jhm_is hb) rfl (jsml_s rfl) rfl (mm_Runs.up (d := 1) (by decide) (ok_231 hb h6 e79)) ?_
      exact jk_265_b66 hb h6 e (jup (jlf (jla 0 [jR (some 76), jI p0, jI p1])) 3 (jI (m 76 51))) rfl rfl (jup_pi (lv := (jlf (jla 0 [jR (some 76), jI p0, jI p1]))) (j := 2) (v := jI (m 76 51)) (z := p1) rfl) rfl
  · rw [if_neg q15] at e
    refine ey_zne (cd_265 rfl) rfl rfl q15 ?_
    exact jk_265_b66 hb h6 e (jup (jlf (jla 0 [jR (some 76), jI p0, jI p1])) 3 (jI (m 76 51))) rfl rfl (jup_pi (lv := (jlf (jla 0 [jR (some 76), jI p0, jI p1]))) (j := 2) (v := jI (m 76 51)) (z := p1) rfl) rfl
theorem cd_268 {pc : Nat} {i : Instr × Nat} (h : mm_lk mm_c268 pc = some i) : mm_cd 268 pc = some i := h
theorem mt_268 : mm_MT 268 = (12, 6, none, 2, 0, []) := rfl
set_option maxRecDepth 100000 in
theorem jk_268_s2 {L : Nat} {xs : Nat → Int32} {b : jH} (hb : 152 ≤ b.1) (h6 : b.1 ≤ 1000000) {x1 : Int} {x2 : Int} {x3 : Int} {m : jM} {o : ((Int × jM) ⊕ jM)} {r : mm_R} (e : jd_268_s2 x1 x2 x3 m = some o) (K : jsm (fun s => (∀ lv : jL, lv 0 = some (jR (some 76)) → lv 1 = some (jI x1) → lv 2 = some (jI x2) → lv 3 = some (jI s.1) → ey (mm_xt L xs) 3 268 2 lv [] (jhm b s.2) r)) (fun x => (∀ lv : jL, lv 0 = some (jR (some 76)) → lv 1 = some (jI x1) → lv 2 = some (jI x2) → ey (mm_xt L xs) 3 268 31 lv [] (jhm b x) r)) o) : ∀ lv : jL, lv 0 = some (jR (some 76)) → lv 1 = some (jI x1) → lv 2 = some (jI x2) → lv 3 = some (jI x3) → ey (mm_xt L xs) 3 268 2 lv [] (jhm b m) r := by
  intro lv f0 f1 f2 f3
  unfold jd_268_s2 at e
  refine ey_iload_n (cd_268 rfl) f3 ?_
  refine ey_bipush (cd_268 rfl) (by decide) ?_
  by_cases q1 : 7 ≤ (jw x3)
  · rw [if_pos q1] at e
    refine ey_cge (cd_268 rfl) rfl rfl (show jw 7 = 7 from by decide) q1 ?_
    cases e
    exact K lv f0 f1 f2
  · rw [if_neg q1] at e
    refine ey_nge (cd_268 rfl) rfl rfl (show jw 7 = 7 from by decide) q1 ?_
    refine ey_aload_n (cd_268 rfl) f0 ?_
    refine ey_getf_r (cd_268 rfl) mt_268 rfl rfl rfl (jhm_gr (q := 111) hb rfl) ?_
    refine ey_bipush (cd_268 rfl) (by decide) ?_
    refine ey_iload_n (cd_268 rfl) f1 ?_
    refine ey_imul (cd_268 rfl) ?_
    refine ey_bipush (cd_268 rfl) (by decide) ?_
    refine ey_iload_n (cd_268 rfl) f2 ?_
    refine ey_imul (cd_268 rfl) ?_
    refine ey_iadd (cd_268 rfl) ?_
    refine ey_iload_n (cd_268 rfl) f3 ?_
    refine ey_iadd (cd_268 rfl) ?_
    refine ey_iconst (cd_268 rfl) ?_
    obtain ⟨m2, e3, e⟩ := jbind e
    refine ey_iast (cd_268 rfl) (jhm_ta hb (by decide) rfl e3) ?_
    refine ey_iinc (cd_268 rfl) mt_268 rfl f3 ?_
    refine ey_goto (cd_268 rfl) rfl ?_
    cases e
    exact K (jup lv 3 (jI (x3 + 1))) f0 f1 (jup_pi (lv := lv) (j := 2) (v := jI (x3 + 1)) (z := x2) f2) rfl
theorem jk_268_l2 {L : Nat} {xs : Nat → Int32} {b : jH} (hb : 152 ≤ b.1) (h6 : b.1 ≤ 1000000) {x1 : Int} {x2 : Int} {x3 : Int} {m : jM} {x : jM} {r : mm_R} (e : jd_268_l2 x1 x2 x3 m = some x) (K : (∀ lv : jL, lv 0 = some (jR (some 76)) → lv 1 = some (jI x1) → lv 2 = some (jI x2) → ey (mm_xt L xs) 3 268 31 lv [] (jhm b x) r)) : ∀ lv : jL, lv 0 = some (jR (some 76)) → lv 1 = some (jI x1) → lv 2 = some (jI x2) → lv 3 = some (jI x3) → ey (mm_xt L xs) 3 268 2 lv [] (jhm b m) r := by
  unfold jd_268_l2 at e
  exact jlp_ok2 (P := fun s => ∀ lv : jL, lv 0 = some (jR (some 76)) → lv 1 = some (jI x1) → lv 2 = some (jI x2) → lv 3 = some (jI s.1) → ey (mm_xt L xs) 3 268 2 lv [] (jhm b s.2) r) (Q := fun x => (∀ lv : jL, lv 0 = some (jR (some 76)) → lv 1 = some (jI x1) → lv 2 = some (jI x2) → ey (mm_xt L xs) 3 268 31 lv [] (jhm b x) r)) (fun s q hq hk => jk_268_s2 hb h6 hq hk) jfu _ x e K
set_option maxRecDepth 100000 in
theorem jk_268_s47 {L : Nat} {xs : Nat → Int32} {b : jH} (hb : 152 ≤ b.1) (h6 : b.1 ≤ 1000000) {x1 : Int} {x2 : Int} {x3 : Int} {x4 : Int} {x5 : Int} {m : jM} {o : ((Int × jM) ⊕ jM)} {r : mm_R} (e : jd_268_s47 x1 x2 x3 x4 x5 m = some o) (K : jsm (fun s => (∀ lv : jL, lv 0 = some (jR (some 76)) → lv 1 = some (jI x1) → lv 2 = some (jI x2) → lv 3 = some (jI x3) → lv 4 = some (jI x4) → lv 5 = some (jI s.1) → ey (mm_xt L xs) 3 268 47 lv [] (jhm b s.2) r)) (fun x => (∀ lv : jL, lv 0 = some (jR (some 76)) → lv 1 = some (jI x1) → lv 2 = some (jI x2) → lv 3 = some (jI x3) → ey (mm_xt L xs) 3 268 102 lv [] (jhm b x) r)) o) : ∀ lv : jL, lv 0 = some (jR (some 76)) → lv 1 = some (jI x1) → lv 2 = some (jI x2) → lv 3 = some (jI x3) → lv 4 = some (jI x4) → lv 5 = some (jI x5) → ey (mm_xt L xs) 3 268 47 lv [] (jhm b m) r := by
  intro lv f0 f1 f2 f3 f4 f5
  unfold jd_268_s47 at e
  refine ey_iload (cd_268 rfl) f5 ?_
  refine ey_iload (cd_268 rfl) f4 ?_
  refine ey_iload (cd_268 rfl) f4 ?_
  refine ey_imul (cd_268 rfl) ?_
  by_cases q7 : (jw (x4 * x4)) ≤ (jw x5)
  · rw [if_pos q7] at e
    refine ey_cge (cd_268 rfl) rfl rfl rfl q7 ?_
    cases e
    exact K lv f0 f1 f2 f3
  · rw [if_neg q7] at e
    refine ey_nge (cd_268 rfl) rfl rfl rfl q7 ?_
    refine ey_aload_n (cd_268 rfl) f0 ?_
    refine ey_iload_n (cd_268 rfl) f1 ?_
    refine ey_iload_n (cd_268 rfl) f3 ?_
    refine ey_iload (cd_268 rfl) f4 ?_
    refine ey_aload_n (cd_268 rfl) f0 ?_
    refine ey_iload_n (cd_268 rfl) f2 ?_
    obtain ⟨v8, e9, e⟩ := jbind e
    refine ey_cv (s0 := [jI x2, jR (some 76), jI x4, jI x3, jI x1, jR (some 76)]) (s1 := [jI x4, jI x3, jI x1, jR (some 76)]) (st' := [jI v8, jI x4, jI x3, jI x1, jR (some 76)]) (cd_268 rfl) mt_268 mt_245 rfl rfl rfl (jhm_is hb) rfl (jsml_s rfl) rfl (mm_Runs.up (d := 1) (by decide) (ok_245 hb h6 e9)) ?_
    refine ey_imul (cd_268 rfl) ?_
    refine ey_iload (cd_268 rfl) f5 ?_
    refine ey_iload (cd_268 rfl) f4 ?_
    obtain ⟨u10, e11, e⟩ := jbind e
    refine ey_irem (cd_268 rfl) (jnz_s e11) ?_
    refine ey_iadd (cd_268 rfl) ?_
    refine ey_iload (cd_268 rfl) f4 ?_
    refine ey_aload_n (cd_268 rfl) f0 ?_
    refine ey_iload_n (cd_268 rfl) f2 ?_
    obtain ⟨v12, e13, e⟩ := jbind e
    refine ey_cv (s0 := [jI x2, jR (some 76), jI x4, jI ((x4 * v8) + (jrem x5 x4)), jI x3, jI x1, jR (some 76)]) (s1 := [jI x4, jI ((x4 * v8) + (jrem x5 x4)), jI x3, jI x1, jR (some 76)]) (st' := [jI v12, jI x4, jI ((x4 * v8) + (jrem x5 x4)), jI x3, jI x1, jR (some 76)]) (cd_268 rfl) mt_268 mt_246 rfl rfl rfl (jhm_is hb) rfl (jsml_s rfl) rfl (mm_Runs.up (d := 1) (by decide) (ok_246 hb h6 e13)) ?_
    refine ey_imul (cd_268 rfl) ?_
    refine ey_iload (cd_268 rfl) f5 ?_
    refine ey_iload (cd_268 rfl) f4 ?_
    obtain ⟨u14, e15, e⟩ := jbind e
    refine ey_idiv (cd_268 rfl) (jnz_s e15) ?_
    refine ey_iadd (cd_268 rfl) ?_
    refine ey_aload_n (cd_268 rfl) f0 ?_
    refine ey_iload_n (cd_268 rfl) f1 ?_
    obtain ⟨v16, e17, e⟩ := jbind e
    refine ey_cv (s0 := [jI x1, jR (some 76), jI ((x4 * v12) + (jdiv x5 x4)), jI ((x4 * v8) + (jrem x5 x4)), jI x3, jI x1, jR (some 76)]) (s1 := [jI ((x4 * v12) + (jdiv x5 x4)), jI ((x4 * v8) + (jrem x5 x4)), jI x3, jI x1, jR (some 76)]) (st' := [jI v16, jI ((x4 * v12) + (jdiv x5 x4)), jI ((x4 * v8) + (jrem x5 x4)), jI x3, jI x1, jR (some 76)]) (cd_268 rfl) mt_268 mt_240 rfl rfl rfl (jhm_is hb) rfl (jsml_s rfl) rfl (mm_Runs.up (d := 2) (by decide) (ok_240 hb h6 e17)) ?_
    obtain ⟨m18, e19, e⟩ := jbind e
    refine ey_cv (s0 := [jI v16, jI ((x4 * v12) + (jdiv x5 x4)), jI ((x4 * v8) + (jrem x5 x4)), jI x3, jI x1, jR (some 76)]) (s1 := []) (st' := []) (cd_268 rfl) mt_268 mt_241 rfl rfl rfl (jhm_is hb) rfl (jsml_s rfl) rfl (ok_241 hb h6 e19) ?_
    refine ey_iinc (cd_268 rfl) mt_268 rfl f5 ?_
    refine ey_goto (cd_268 rfl) rfl ?_
    cases e
    exact K (jup lv 5 (jI (x5 + 1))) f0 f1 f2 f3 (jup_pi (lv := lv) (j := 4) (v := jI (x5 + 1)) (z := x4) f4) rfl
theorem jk_268_l47 {L : Nat} {xs : Nat → Int32} {b : jH} (hb : 152 ≤ b.1) (h6 : b.1 ≤ 1000000) {x1 : Int} {x2 : Int} {x3 : Int} {x4 : Int} {x5 : Int} {m : jM} {x : jM} {r : mm_R} (e : jd_268_l47 x1 x2 x3 x4 x5 m = some x) (K : (∀ lv : jL, lv 0 = some (jR (some 76)) → lv 1 = some (jI x1) → lv 2 = some (jI x2) → lv 3 = some (jI x3) → ey (mm_xt L xs) 3 268 102 lv [] (jhm b x) r)) : ∀ lv : jL, lv 0 = some (jR (some 76)) → lv 1 = some (jI x1) → lv 2 = some (jI x2) → lv 3 = some (jI x3) → lv 4 = some (jI x4) → lv 5 = some (jI x5) → ey (mm_xt L xs) 3 268 47 lv [] (jhm b m) r := by
  unfold jd_268_l47 at e
  exact jlp_ok2 (P := fun s => ∀ lv : jL, lv 0 = some (jR (some 76)) → lv 1 = some (jI x1) → lv 2 = some (jI x2) → lv 3 = some (jI x3) → lv 4 = some (jI x4) → lv 5 = some (jI s.1) → ey (mm_xt L xs) 3 268 47 lv [] (jhm b s.2) r) (Q := fun x => (∀ lv : jL, lv 0 = some (jR (some 76)) → lv 1 = some (jI x1) → lv 2 = some (jI x2) → lv 3 = some (jI x3) → ey (mm_xt L xs) 3 268 102 lv [] (jhm b x) r)) (fun s q hq hk => jk_268_s47 hb h6 hq hk) jfu _ x e K
set_option maxRecDepth 100000 in
theorem jk_268_s33 {L : Nat} {xs : Nat → Int32} {b : jH} (hb : 152 ≤ b.1) (h6 : b.1 ≤ 1000000) {x1 : Int} {x2 : Int} {x3 : Int} {m : jM} {o : ((Int × jM) ⊕ jM)} {r : mm_R} (e : jd_268_s33 x1 x2 x3 m = some o) (K : jsm (fun s => (∀ lv : jL, lv 0 = some (jR (some 76)) → lv 1 = some (jI x1) → lv 2 = some (jI x2) → lv 3 = some (jI s.1) → ey (mm_xt L xs) 3 268 33 lv [] (jhm b s.2) r)) (fun x => (∀ lv : jL, ey (mm_xt L xs) 3 268 108 lv [] (jhm b x) r)) o) : ∀ lv : jL, lv 0 = some (jR (some 76)) → lv 1 = some (jI x1) → lv 2 = some (jI x2) → lv 3 = some (jI x3) → ey (mm_xt L xs) 3 268 33 lv [] (jhm b m) r := by
  intro lv f0 f1 f2 f3
  unfold jd_268_s33 at e
  refine ey_iload_n (cd_268 rfl) f3 ?_
  refine ey_iconst (cd_268 rfl) ?_
  by_cases q6 : 3 ≤ (jw x3)
  · rw [if_pos q6] at e
    refine ey_cge (cd_268 rfl) rfl rfl (show jw 3 = 3 from by decide) q6 ?_
    cases e
    exact K lv 
  · rw [if_neg q6] at e
    refine ey_nge (cd_268 rfl) rfl rfl (show jw 3 = 3 from by decide) q6 ?_
    refine ey_iload_n (cd_268 rfl) f3 ?_
    refine ey_cs (s0 := [jI x3]) (s1 := []) (st' := [jI (jd_243 x3)]) (cd_268 rfl) mt_268 mt_243 rfl (by decide) rfl rfl (jsml_s rfl) rfl (mm_Runs.up (d := 1) (by decide) (ok_243 )) ?_
    refine ey_istore (cd_268 rfl) mt_268 rfl ?_
    refine ey_iconst (cd_268 rfl) ?_
    refine ey_istore (cd_268 rfl) mt_268 rfl ?_
    obtain ⟨x20, e21, e⟩ := jbind e
    refine jk_268_l47 hb h6 e21 ?_ (jup (jup lv 4 (jI (jd_243 x3))) 5 (jI 0)) f0 f1 f2 (jup_o rfl (jup_pi (lv := lv) (j := 3) (v := jI (jd_243 x3)) (z := x3) f3)) (jup_pi (lv := (jup lv 4 (jI (jd_243 x3)))) (j := 4) (v := jI 0) (z := (jd_243 x3)) rfl) rfl
    intro lv g0 g1 g2 g3
    refine ey_iinc (cd_268 rfl) mt_268 rfl g3 ?_
    refine ey_goto (cd_268 rfl) rfl ?_
    cases e
    exact K (jup lv 3 (jI (x3 + 1))) g0 g1 (jup_pi (lv := lv) (j := 2) (v := jI (x3 + 1)) (z := x2) g2) rfl
theorem jk_268_l33 {L : Nat} {xs : Nat → Int32} {b : jH} (hb : 152 ≤ b.1) (h6 : b.1 ≤ 1000000) {x1 : Int} {x2 : Int} {x3 : Int} {m : jM} {x : jM} {r : mm_R} (e : jd_268_l33 x1 x2 x3 m = some x) (K : (∀ lv : jL, ey (mm_xt L xs) 3 268 108 lv [] (jhm b x) r)) : ∀ lv : jL, lv 0 = some (jR (some 76)) → lv 1 = some (jI x1) → lv 2 = some (jI x2) → lv 3 = some (jI x3) → ey (mm_xt L xs) 3 268 33 lv [] (jhm b m) r := by
  unfold jd_268_l33 at e
  exact jlp_ok2 (P := fun s => ∀ lv : jL, lv 0 = some (jR (some 76)) → lv 1 = some (jI x1) → lv 2 = some (jI x2) → lv 3 = some (jI s.1) → ey (mm_xt L xs) 3 268 33 lv [] (jhm b s.2) r) (Q := fun x => (∀ lv : jL, ey (mm_xt L xs) 3 268 108 lv [] (jhm b x) r)) (fun s q hq hk => jk_268_s33 hb h6 hq hk) jfu _ x e K
set_option maxRecDepth 100000 in
theorem ok_268 {L : Nat} {xs : Nat → Int32} {b : jH} (hb : 152 ≤ b.1) (h6 : b.1 ≤ 1000000) {p0 : Int} {p1 : Int} {m : jM} {o : jM} (e : jd_268 p0 p1 m = some o) : mm_Runs (mm_xt L xs) 4 268 ([jR (some 76), jI p0, jI p1].map jcv) (jaH (jhm b m)) (.inl (none, jaH (jhm b o))) := by
  refine ey_run0 _ mt_268 (jsl_s rfl) ?_
  unfold jd_268 at e
  refine ey_iconst (cd_268 rfl) ?_
  refine ey_istore_n (cd_268 rfl) mt_268 rfl ?_
  obtain ⟨x4, e5, e⟩ := jbind e
  refine jk_268_l2 hb h6 e5 ?_ (jup (jlf (jla 0 [jR (some 76), jI p0, jI p1])) 3 (jI 0)) rfl rfl (jup_pi (lv := (jlf (jla 0 [jR (some 76), jI p0, jI p1]))) (j := 2) (v := jI 0) (z := p1) rfl) rfl
  intro lv g0 g1 g2
  refine ey_iconst (cd_268 rfl) ?_
  refine ey_istore_n (cd_268 rfl) mt_268 rfl ?_
  obtain ⟨x22, e23, e⟩ := jbind e
  refine jk_268_l33 hb h6 e23 ?_ (jup lv 3 (jI 0)) g0 g1 (jup_pi (lv := lv) (j := 2) (v := jI 0) (z := p1) g2) rfl
  intro lv 
  cases e
  exact ey_retv (cd_268 rfl) mt_268 rfl
theorem cd_269 {pc : Nat} {i : Instr × Nat} (h : mm_lk mm_c269 pc = some i) : mm_cd 269 pc = some i := h
theorem mt_269 : mm_MT 269 = (12, 2, none, 0, 0, []) := rfl
set_option maxRecDepth 100000 in
theorem jk_269_s28 {L : Nat} {xs : Nat → Int32} {b : jH} (hb : 152 ≤ b.1) (h6 : b.1 ≤ 1000000) {x1 : Int} {m : jM} {o : ((Int × jM) ⊕ (Int × jM))} {r : mm_R} (e : jd_269_s28 x1 m = some o) (K : jsm (fun s => (∀ lv : jL, lv 0 = some (jR (some 76)) → lv 1 = some (jI s.1) → ey (mm_xt L xs) 1 269 28 lv [] (jhm b s.2) r)) (fun x => (∀ lv : jL, lv 0 = some (jR (some 76)) → lv 1 = some (jI x.1) → ey (mm_xt L xs) 1 269 59 lv [] (jhm b x.2) r)) o) : ∀ lv : jL, lv 0 = some (jR (some 76)) → lv 1 = some (jI x1) → ey (mm_xt L xs) 1 269 28 lv [] (jhm b m) r := by
  intro lv f0 f1
  unfold jd_269_s28 at e
  refine ey_iload_n (cd_269 rfl) f1 ?_
  by_cases q4 : (jw x1) = 0
  · rw [if_pos q4] at e
    refine ey_zeq (cd_269 rfl) rfl rfl q4 ?_
    cases e
    exact K lv f0 f1
  · rw [if_neg q4] at e
    refine ey_yeq (cd_269 rfl) rfl rfl q4 ?_
    refine ey_aload_n (cd_269 rfl) f0 ?_
    refine ey_getf_i (z := (m 76 51)) (cd_269 rfl) mt_269 rfl rfl rfl (jhm_gi hb 51) ?_
    refine ey_aload_n (cd_269 rfl) f0 ?_
    refine ey_getf_i (z := (m 76 50)) (cd_269 rfl) mt_269 rfl rfl rfl (jhm_gi hb 50) ?_
    by_cases q5 : (jw (m 76 50)) ≤ (jw (m 76 51))
    · rw [if_pos q5] at e
      refine ey_cge (cd_269 rfl) rfl rfl rfl q5 ?_
      cases e
      exact K lv f0 f1
    · rw [if_neg q5] at e
      refine ey_nge (cd_269 rfl) rfl rfl rfl q5 ?_
      refine ey_aload_n (cd_269 rfl) f0 ?_
      obtain ⟨q6, e7, e⟩ := jbind e
      refine ey_cv (s0 := [jR (some 76)]) (s1 := []) (st' := [jI q6.1]) (cd_269 rfl) mt_269 mt_227 rfl rfl rfl (jhm_is hb) rfl (jsml_s rfl) rfl (ok_227 hb h6 e7) ?_
      have K10 : ∀ lv : jL, lv 0 = some (jR (some 76)) → ey (mm_xt L xs) 1 269 55 lv [jI (if (jw q6.1) = 0 then 1 else 0)] (jhm b q6.2) r := by
        intro lv g0
        obtain ⟨z8, e9, e⟩ := jbind e
        refine ey_rs (s0 := [jI (if (jw q6.1) = 0 then 1 else 0)]) (s1 := [jI z8]) (by rw [show (if (jw q6.1) = 0 then 1 else 0) = z8 from Option.some.inj e9]) ?_
        refine ey_istore_n (cd_269 rfl) mt_269 rfl ?_
        refine ey_goto (cd_269 rfl) rfl ?_
        cases e
        exact K (jup lv 1 (jI z8)) (jup_pr (lv := lv) (j := 0) (v := jI z8) (z := (some 76)) g0) rfl
      by_cases q11 : (jw q6.1) = 0
      · refine ey_yne (cd_269 rfl) rfl rfl (fun w => w q11) ?_
        refine ey_iconst (cd_269 rfl) ?_
        refine ey_goto (cd_269 rfl) rfl ?_
        exact ey_rs (s0 := [jI 1]) (s1 := [jI (if (jw q6.1) = 0 then 1 else 0)]) (by rw [show ((if (jw q6.1) = 0 then 1 else 0) : Int) = 1 from (if_pos q11)]) (K10 lv f0)
      · refine ey_zne (cd_269 rfl) rfl rfl q11 ?_
        refine ey_iconst (cd_269 rfl) ?_
        exact ey_rs (s0 := [jI 0]) (s1 := [jI (if (jw q6.1) = 0 then 1 else 0)]) (by rw [show ((if (jw q6.1) = 0 then 1 else 0) : Int) = 0 from (if_neg q11)]) (K10 lv f0)
theorem jk_269_l28 {L : Nat} {xs : Nat → Int32} {b : jH} (hb : 152 ≤ b.1) (h6 : b.1 ≤ 1000000) {x1 : Int} {m : jM} {x : (Int × jM)} {r : mm_R} (e : jd_269_l28 x1 m = some x) (K : (∀ lv : jL, lv 0 = some (jR (some 76)) → lv 1 = some (jI x.1) → ey (mm_xt L xs) 1 269 59 lv [] (jhm b x.2) r)) : ∀ lv : jL, lv 0 = some (jR (some 76)) → lv 1 = some (jI x1) → ey (mm_xt L xs) 1 269 28 lv [] (jhm b m) r := by
  unfold jd_269_l28 at e
  exact jlp_ok2 (P := fun s => ∀ lv : jL, lv 0 = some (jR (some 76)) → lv 1 = some (jI s.1) → ey (mm_xt L xs) 1 269 28 lv [] (jhm b s.2) r) (Q := fun x => (∀ lv : jL, lv 0 = some (jR (some 76)) → lv 1 = some (jI x.1) → ey (mm_xt L xs) 1 269 59 lv [] (jhm b x.2) r)) (fun s q hq hk => jk_269_s28 hb h6 hq hk) jfu _ x e K
set_option maxRecDepth 100000 in
theorem jk_269_b69 {L : Nat} {xs : Nat → Int32} {b : jH} (hb : 152 ≤ b.1) (h6 : b.1 ≤ 1000000)  {m : jM} {o : jM} (e : jd_269_b69  m = some o) : ∀ lv : jL, ey (mm_xt L xs) 1 269 69 lv [] (jhm b m) (.inl (none, jaH (jhm b o))) := by
  intro lv 
  unfold jd_269_b69 at e
  cases e
  exact ey_retv (cd_269 rfl) mt_269 rfl
set_option maxRecDepth 100000 in
theorem ok_269 {L : Nat} {xs : Nat → Int32} {b : jH} (hb : 152 ≤ b.1) (h6 : b.1 ≤ 1000000)  {m : jM} {o : jM} (e : jd_269  m = some o) : mm_Runs (mm_xt L xs) 2 269 ([jR (some 76)].map jcv) (jaH (jhm b m)) (.inl (none, jaH (jhm b o))) := by
  refine ey_run0 _ mt_269 (jsl_s rfl) ?_
  unfold jd_269 at e
  refine ey_aload_n (cd_269 rfl) rfl ?_
  refine ey_getf_i (z := (m 76 52)) (cd_269 rfl) mt_269 rfl rfl rfl (jhm_gi hb 52) ?_
  by_cases q1 : (jw (m 76 52)) ≤ 0
  · rw [if_pos q1] at e
    refine ey_zle (cd_269 rfl) rfl rfl q1 ?_
    refine ey_aload_n (cd_269 rfl) rfl ?_
    refine ey_getf_i (z := (m 76 50)) (cd_269 rfl) mt_269 rfl rfl rfl (jhm_gi hb 50) ?_
    refine ey_aload_n (cd_269 rfl) rfl ?_
    refine ey_getf_i (z := (m 76 51)) (cd_269 rfl) mt_269 rfl rfl rfl (jhm_gi hb 51) ?_
    refine ey_isub (cd_269 rfl) ?_
    refine ey_bipush (cd_269 rfl) (by decide) ?_
    have K17 : ∀ lv : jL, lv 0 = some (jR (some 76)) → ey (mm_xt L xs) 1 269 27 lv [jI (if 8 ≤ (jw ((m 76 50) - (m 76 51))) then 0 else 1)] (jhm b m) (.inl (none, jaH (jhm b o))) := by
      intro lv g0
      obtain ⟨z2, e3, e⟩ := jbind e
      refine ey_rs (s0 := [jI (if 8 ≤ (jw ((m 76 50) - (m 76 51))) then 0 else 1)]) (s1 := [jI z2]) (by rw [show (if 8 ≤ (jw ((m 76 50) - (m 76 51))) then 0 else 1) = z2 from Option.some.inj e3]) ?_
      refine ey_istore_n (cd_269 rfl) mt_269 rfl ?_
      obtain ⟨x12, e13, e⟩ := jbind e
      refine jk_269_l28 hb h6 e13 ?_ (jup lv 1 (jI z2)) (jup_pr (lv := lv) (j := 0) (v := jI z2) (z := (some 76)) g0) rfl
      intro lv g0 g1
      refine ey_iload_n (cd_269 rfl) g1 ?_
      by_cases q14 : (jw x12.1) = 0
      · rw [if_pos q14] at e
        refine ey_yne (cd_269 rfl) rfl rfl (fun w => w q14) ?_
        refine ey_aload_n (cd_269 rfl) g0 ?_
        refine ey_bipush (cd_269 rfl) (by decide) ?_
        obtain ⟨m15, e16, e⟩ := jbind e
        refine ey_cv (s0 := [jI 6, jR (some 76)]) (s1 := []) (st' := []) (cd_269 rfl) mt_269 mt_231 rfl rfl rfl (jhm_is hb) rfl (jsml_s rfl) rfl (ok_231 hb h6 e16) ?_
        exact jk_269_b69 hb h6 e lv 
      · rw [if_neg q14] at e
        refine ey_zne (cd_269 rfl) rfl rfl q14 ?_
        exact jk_269_b69 hb h6 e lv 
    by_cases q18 : 8 ≤ (jw ((m 76 50) - (m 76 51)))
    · refine ey_cge (cd_269 rfl) rfl rfl (show jw 8 = 8 from by decide) q18 ?_
      refine ey_iconst (cd_269 rfl) ?_
      exact ey_rs (s0 := [jI 0]) (s1 := [jI (if 8 ≤ (jw ((m 76 50) - (m 76 51))) then 0 else 1)]) (by rw [show ((if 8 ≤ (jw ((m 76 50) - (m 76 51))) then 0 else 1) : Int) = 0 from (if_pos q18)]) (K17 (jlf (jla 0 [jR (some 76)])) rfl)
    · refine ey_nge (cd_269 rfl) rfl rfl (show jw 8 = 8 from by decide) q18 ?_
      refine ey_iconst (cd_269 rfl) ?_
      refine ey_goto (cd_269 rfl) rfl ?_
      exact ey_rs (s0 := [jI 1]) (s1 := [jI (if 8 ≤ (jw ((m 76 50) - (m 76 51))) then 0 else 1)]) (by rw [show ((if 8 ≤ (jw ((m 76 50) - (m 76 51))) then 0 else 1) : Int) = 1 from (if_neg q18)]) (K17 (jlf (jla 0 [jR (some 76)])) rfl)
  · rw [if_neg q1] at e
    refine ey_yle (cd_269 rfl) rfl rfl q1 ?_
    cases e
    exact ey_retv (cd_269 rfl) mt_269 rfl
theorem cd_270 {pc : Nat} {i : Instr × Nat} (h : mm_lk mm_c270 pc = some i) : mm_cd 270 pc = some i := h
theorem mt_270 : mm_MT 270 = (12, 4, none, 1, 0, []) := rfl
set_option maxRecDepth 100000 in
theorem jk_270_s2 {L : Nat} {xs : Nat → Int32} {b : jH} (hb : 152 ≤ b.1) (h6 : b.1 ≤ 1000000) {x1 : Int} {x2 : Int} {m : jM} {o : ((Int × jM) ⊕ (Int × jM))} {r : mm_R} (e : jd_270_s2 x1 x2 m = some o) (K : jsm (fun s => (∀ lv : jL, lv 0 = some (jR (some 76)) → lv 1 = some (jI x1) → lv 2 = some (jI s.1) → ey (mm_xt L xs) 7 270 2 lv [] (jhm b s.2) r)) (fun x => (∀ lv : jL, lv 0 = some (jR (some 76)) → lv 1 = some (jI x1) → lv 2 = some (jI x.1) → ey (mm_xt L xs) 7 270 36 lv [] (jhm b x.2) r)) o) : ∀ lv : jL, lv 0 = some (jR (some 76)) → lv 1 = some (jI x1) → lv 2 = some (jI x2) → ey (mm_xt L xs) 7 270 2 lv [] (jhm b m) r := by
  intro lv f0 f1 f2
  unfold jd_270_s2 at e
  refine ey_iload_n (cd_270 rfl) f2 ?_
  refine ey_aload_n (cd_270 rfl) f0 ?_
  refine ey_cv (s0 := [jR (some 76), jI x2]) (s1 := [jI x2]) (st' := [jI (jd_238 m), jI x2]) (cd_270 rfl) mt_270 mt_238 rfl rfl rfl (jhm_is hb) rfl (jsml_s rfl) rfl (mm_Runs.up (d := 1) (by decide) (ok_238 hb h6 )) ?_
  by_cases q1 : (jw (jd_238 m)) ≤ (jw x2)
  · rw [if_pos q1] at e
    refine ey_cge (cd_270 rfl) rfl rfl rfl q1 ?_
    cases e
    exact K lv f0 f1 f2
  · rw [if_neg q1] at e
    refine ey_nge (cd_270 rfl) rfl rfl rfl q1 ?_
    refine ey_aload_n (cd_270 rfl) f0 ?_
    refine ey_getf_i (z := (m 76 52)) (cd_270 rfl) mt_270 rfl rfl rfl (jhm_gi hb 52) ?_
    by_cases q2 : (jw (m 76 52)) = 0
    · rw [if_pos q2] at e
      refine ey_yne (cd_270 rfl) rfl rfl (fun w => w q2) ?_
      refine ey_aload_n (cd_270 rfl) f0 ?_
      refine ey_iload_n (cd_270 rfl) f1 ?_
      refine ey_iload_n (cd_270 rfl) f2 ?_
      obtain ⟨m3, e4, e⟩ := jbind e
      refine ey_cv (s0 := [jI x2, jI x1, jR (some 76)]) (s1 := []) (st' := []) (cd_270 rfl) mt_270 mt_265 rfl rfl rfl (jhm_is hb) rfl (jsml_s rfl) rfl (ok_265 hb h6 e4) ?_
      refine ey_aload_n (cd_270 rfl) f0 ?_
      refine ey_getf_i (z := (m3 76 52)) (cd_270 rfl) mt_270 rfl rfl rfl (jhm_gi hb 52) ?_
      have K5 : ∀ lv : jL, lv 0 = some (jR (some 76)) → lv 1 = some (jI x1) → lv 2 = some (jI (if (jw (m3 76 52)) = 0 then (x2 + 1) else x2)) → ey (mm_xt L xs) 7 270 2 lv [] (jhm b m3) r := by
        intro lv g0 g1 g2
        cases e
        exact K lv g0 g1 g2
      by_cases q6 : (jw (m3 76 52)) = 0
      · refine ey_yne (cd_270 rfl) rfl rfl (fun w => w q6) ?_
        refine ey_iinc (cd_270 rfl) mt_270 rfl f2 ?_
        refine ey_goto (cd_270 rfl) rfl ?_
        exact K5 (jup lv 2 (jI (x2 + 1))) f0 (jup_pi (lv := lv) (j := 1) (v := jI (x2 + 1)) (z := x1) f1) (Eq.trans (show (jup lv 2 (jI (x2 + 1))) 2 = some (jI (x2 + 1)) from rfl) (congrArg (fun z => some (jI z)) (Eq.symm (if_pos q6))))
      · refine ey_zne (cd_270 rfl) rfl rfl q6 ?_
        exact K5 lv f0 f1 (Eq.trans (show lv 2 = some (jI x2) from f2) (congrArg (fun z => some (jI z)) (Eq.symm (if_neg q6))))
    · rw [if_neg q2] at e
      refine ey_zne (cd_270 rfl) rfl rfl q2 ?_
      cases e
      exact K lv f0 f1 f2
theorem jk_270_l2 {L : Nat} {xs : Nat → Int32} {b : jH} (hb : 152 ≤ b.1) (h6 : b.1 ≤ 1000000) {x1 : Int} {x2 : Int} {m : jM} {x : (Int × jM)} {r : mm_R} (e : jd_270_l2 x1 x2 m = some x) (K : (∀ lv : jL, lv 0 = some (jR (some 76)) → lv 1 = some (jI x1) → lv 2 = some (jI x.1) → ey (mm_xt L xs) 7 270 36 lv [] (jhm b x.2) r)) : ∀ lv : jL, lv 0 = some (jR (some 76)) → lv 1 = some (jI x1) → lv 2 = some (jI x2) → ey (mm_xt L xs) 7 270 2 lv [] (jhm b m) r := by
  unfold jd_270_l2 at e
  exact jlp_ok2 (P := fun s => ∀ lv : jL, lv 0 = some (jR (some 76)) → lv 1 = some (jI x1) → lv 2 = some (jI s.1) → ey (mm_xt L xs) 7 270 2 lv [] (jhm b s.2) r) (Q := fun x => (∀ lv : jL, lv 0 = some (jR (some 76)) → lv 1 = some (jI x1) → lv 2 = some (jI x.1) → ey (mm_xt L xs) 7 270 36 lv [] (jhm b x.2) r)) (fun s q hq hk => jk_270_s2 hb h6 hq hk) jfu _ x e K
set_option maxRecDepth 100000 in
theorem jk_270_b94 {L : Nat} {xs : Nat → Int32} {b : jH} (hb : 152 ≤ b.1) (h6 : b.1 ≤ 1000000)  {m : jM} {o : jM} (e : jd_270_b94  m = some o) : ∀ lv : jL, ey (mm_xt L xs) 7 270 94 lv [] (jhm b m) (.inl (none, jaH (jhm b o))) := by
  intro lv 
  unfold jd_270_b94 at e
  cases e
  exact ey_retv (cd_270 rfl) mt_270 rfl
set_option maxRecDepth 100000 in
theorem jk_270_s52 {L : Nat} {xs : Nat → Int32} {b : jH} (hb : 152 ≤ b.1) (h6 : b.1 ≤ 1000000) {x1 : Int} {x3 : Int} {m : jM} {o : ((Int × jM) ⊕ jM)} {r : mm_R} (e : jd_270_s52 x1 x3 m = some o) (K : jsm (fun s => (∀ lv : jL, lv 0 = some (jR (some 76)) → lv 1 = some (jI x1) → lv 3 = some (jI s.1) → ey (mm_xt L xs) 7 270 52 lv [] (jhm b s.2) r)) (fun x => (∀ lv : jL, ey (mm_xt L xs) 7 270 72 lv [] (jhm b x) r)) o) : ∀ lv : jL, lv 0 = some (jR (some 76)) → lv 1 = some (jI x1) → lv 3 = some (jI x3) → ey (mm_xt L xs) 7 270 52 lv [] (jhm b m) r := by
  intro lv f0 f1 f3
  unfold jd_270_s52 at e
  refine ey_iload_n (cd_270 rfl) f3 ?_
  refine ey_aload_n (cd_270 rfl) f0 ?_
  refine ey_cv (s0 := [jR (some 76), jI x3]) (s1 := [jI x3]) (st' := [jI (jd_238 m), jI x3]) (cd_270 rfl) mt_270 mt_238 rfl rfl rfl (jhm_is hb) rfl (jsml_s rfl) rfl (mm_Runs.up (d := 1) (by decide) (ok_238 hb h6 )) ?_
  by_cases q17 : (jw (jd_238 m)) ≤ (jw x3)
  · rw [if_pos q17] at e
    refine ey_cge (cd_270 rfl) rfl rfl rfl q17 ?_
    cases e
    exact K lv 
  · rw [if_neg q17] at e
    refine ey_nge (cd_270 rfl) rfl rfl rfl q17 ?_
    refine ey_aload_n (cd_270 rfl) f0 ?_
    refine ey_iload_n (cd_270 rfl) f1 ?_
    refine ey_iload_n (cd_270 rfl) f3 ?_
    obtain ⟨m18, e19, e⟩ := jbind e
    refine ey_cv (s0 := [jI x3, jI x1, jR (some 76)]) (s1 := []) (st' := []) (cd_270 rfl) mt_270 mt_268 rfl rfl rfl (jhm_is hb) rfl (jsml_s rfl) rfl (mm_Runs.up (d := 4) (by decide) (ok_268 hb h6 e19)) ?_
    refine ey_iinc (cd_270 rfl) mt_270 rfl f3 ?_
    refine ey_goto (cd_270 rfl) rfl ?_
    cases e
    exact K (jup lv 3 (jI (x3 + 1))) f0 f1 rfl
theorem jk_270_l52 {L : Nat} {xs : Nat → Int32} {b : jH} (hb : 152 ≤ b.1) (h6 : b.1 ≤ 1000000) {x1 : Int} {x3 : Int} {m : jM} {x : jM} {r : mm_R} (e : jd_270_l52 x1 x3 m = some x) (K : (∀ lv : jL, ey (mm_xt L xs) 7 270 72 lv [] (jhm b x) r)) : ∀ lv : jL, lv 0 = some (jR (some 76)) → lv 1 = some (jI x1) → lv 3 = some (jI x3) → ey (mm_xt L xs) 7 270 52 lv [] (jhm b m) r := by
  unfold jd_270_l52 at e
  exact jlp_ok2 (P := fun s => ∀ lv : jL, lv 0 = some (jR (some 76)) → lv 1 = some (jI x1) → lv 3 = some (jI s.1) → ey (mm_xt L xs) 7 270 52 lv [] (jhm b s.2) r) (Q := fun x => (∀ lv : jL, ey (mm_xt L xs) 7 270 72 lv [] (jhm b x) r)) (fun s q hq hk => jk_270_s52 hb h6 hq hk) jfu _ x e K
set_option maxRecDepth 100000 in
theorem ok_270 {L : Nat} {xs : Nat → Int32} {b : jH} (hb : 152 ≤ b.1) (h6 : b.1 ≤ 1000000) {p0 : Int} {m : jM} {o : jM} (e : jd_270 p0 m = some o) : mm_Runs (mm_xt L xs) 8 270 ([jR (some 76), jI p0].map jcv) (jaH (jhm b m)) (.inl (none, jaH (jhm b o))) := by
  refine ey_run0 _ mt_270 (jsl_s rfl) ?_
  unfold jd_270 at e
  refine ey_iconst (cd_270 rfl) ?_
  refine ey_istore_n (cd_270 rfl) mt_270 rfl ?_
  obtain ⟨x7, e8, e⟩ := jbind e
  refine jk_270_l2 hb h6 e8 ?_ (jup (jlf (jla 0 [jR (some 76), jI p0])) 2 (jI 0)) rfl (jup_pi (lv := (jlf (jla 0 [jR (some 76), jI p0]))) (j := 1) (v := jI 0) (z := p0) rfl) rfl
  intro lv g0 g1 g2
  refine ey_aload_n (cd_270 rfl) g0 ?_
  refine ey_getf_i (z := (x7.2 76 52)) (cd_270 rfl) mt_270 rfl rfl rfl (jhm_gi hb 52) ?_
  by_cases q9 : (jw (x7.2 76 52)) ≤ 0
  · rw [if_pos q9] at e
    refine ey_zle (cd_270 rfl) rfl rfl q9 ?_
    refine ey_aload_n (cd_270 rfl) g0 ?_
    obtain ⟨m10, e11, e⟩ := jbind e
    refine ey_cv (s0 := [jR (some 76)]) (s1 := []) (st' := []) (cd_270 rfl) mt_270 mt_269 rfl rfl rfl (jhm_is hb) rfl (jsml_s rfl) rfl (mm_Runs.up (d := 2) (by decide) (ok_269 hb h6 e11)) ?_
    refine ey_aload_n (cd_270 rfl) g0 ?_
    refine ey_getf_i (z := (m10 76 52)) (cd_270 rfl) mt_270 rfl rfl rfl (jhm_gi hb 52) ?_
    by_cases q12 : (jw (m10 76 52)) ≤ 0
    · rw [if_pos q12] at e
      refine ey_zle (cd_270 rfl) rfl rfl q12 ?_
      exact jk_270_b94 hb h6 e lv 
    · rw [if_neg q12] at e
      refine ey_yle (cd_270 rfl) rfl rfl q12 ?_
      refine ey_aload_n (cd_270 rfl) g0 ?_
      refine ey_getf_r (cd_270 rfl) mt_270 rfl rfl rfl (jhm_gr (q := 108) hb rfl) ?_
      refine ey_iload_n (cd_270 rfl) g1 ?_
      refine ey_aload_n (cd_270 rfl) g0 ?_
      refine ey_cv (s0 := [jR (some 76), jI p0, jR (some 108)]) (s1 := [jI p0, jR (some 108)]) (st' := [jI (jd_238 m10), jI p0, jR (some 108)]) (cd_270 rfl) mt_270 mt_238 rfl rfl rfl (jhm_is hb) rfl (jsml_s rfl) rfl (mm_Runs.up (d := 1) (by decide) (ok_238 hb h6 )) ?_
      obtain ⟨m13, e14, e⟩ := jbind e
      refine ey_iast (cd_270 rfl) (jhm_ta hb (by decide) rfl e14) ?_
      exact jk_270_b94 hb h6 e lv 
  · rw [if_neg q9] at e
    refine ey_yle (cd_270 rfl) rfl rfl q9 ?_
    refine ey_aload_n (cd_270 rfl) g0 ?_
    refine ey_getf_r (cd_270 rfl) mt_270 rfl rfl rfl (jhm_gr (q := 108) hb rfl) ?_
    refine ey_iload_n (cd_270 rfl) g1 ?_
    refine ey_iload_n (cd_270 rfl) g2 ?_
    obtain ⟨m15, e16, e⟩ := jbind e
    refine ey_iast (cd_270 rfl) (jhm_ta hb (by decide) rfl e16) ?_
    refine ey_iload_n (cd_270 rfl) g2 ?_
    refine ey_istore_n (cd_270 rfl) mt_270 rfl ?_
    obtain ⟨x20, e21, e⟩ := jbind e
    refine jk_270_l52 hb h6 e21 ?_ (jup lv 3 (jI x7.1)) g0 g1 rfl
    intro lv 
    cases e
    exact ey_retv (cd_270 rfl) mt_270 rfl
theorem cd_271 {pc : Nat} {i : Instr × Nat} (h : mm_lk mm_c271 pc = some i) : mm_cd 271 pc = some i := h
theorem mt_271 : mm_MT 271 = (12, 4, none, 1, 0, []) := rfl
set_option maxRecDepth 100000 in
theorem jk_271_s6 {L : Nat} {xs : Nat → Int32} {b : jH} (hb : 152 ≤ b.1) (h6 : b.1 ≤ 1000000) {x1 : Int} {x2 : Int} {x3 : Int} {m : jM} {o : ((Int × jM) ⊕ jM)} {r : mm_R} (e : jd_271_s6 x1 x2 x3 m = some o) (K : jsm (fun s => (∀ lv : jL, lv 0 = some (jR (some 76)) → lv 1 = some (jI x1) → lv 2 = some (jI x2) → lv 3 = some (jI s.1) → ey (mm_xt L xs) 0 271 6 lv [] (jhm b s.2) r)) (fun x => (∀ lv : jL, lv 0 = some (jR (some 76)) → lv 1 = some (jI x1) → lv 2 = some (jI x2) → ey (mm_xt L xs) 0 271 63 lv [] (jhm b x) r)) o) : ∀ lv : jL, lv 0 = some (jR (some 76)) → lv 1 = some (jI x1) → lv 2 = some (jI x2) → lv 3 = some (jI x3) → ey (mm_xt L xs) 0 271 6 lv [] (jhm b m) r := by
  intro lv f0 f1 f2 f3
  unfold jd_271_s6 at e
  refine ey_iload_n (cd_271 rfl) f3 ?_
  refine ey_iload_n (cd_271 rfl) f2 ?_
  by_cases q1 : (jw x2) ≤ (jw x3)
  · rw [if_pos q1] at e
    refine ey_cge (cd_271 rfl) rfl rfl rfl q1 ?_
    cases e
    exact K lv f0 f1 f2
  · rw [if_neg q1] at e
    refine ey_nge (cd_271 rfl) rfl rfl rfl q1 ?_
    refine ey_aload_n (cd_271 rfl) f0 ?_
    refine ey_getf_r (cd_271 rfl) mt_271 rfl rfl rfl (jhm_gr (q := 120) hb rfl) ?_
    refine ey_iconst (cd_271 rfl) ?_
    refine ey_iload_n (cd_271 rfl) f3 ?_
    refine ey_imul (cd_271 rfl) ?_
    refine ey_aload_n (cd_271 rfl) f0 ?_
    refine ey_getf_r (cd_271 rfl) mt_271 rfl rfl rfl (jhm_gr (q := 119) hb rfl) ?_
    refine ey_iload_n (cd_271 rfl) f3 ?_
    obtain ⟨v2, e3, e⟩ := jbind e
    refine ey_iald (cd_271 rfl) (jhm_ai hb h6 (by decide) rfl e3) ?_
    refine ey_aload_n (cd_271 rfl) f0 ?_
    refine ey_getf_r (cd_271 rfl) mt_271 rfl rfl rfl (jhm_gr (q := 119) hb rfl) ?_
    refine ey_iload_n (cd_271 rfl) f2 ?_
    refine ey_iload_n (cd_271 rfl) f3 ?_
    have K10 : ∀ lv : jL, lv 0 = some (jR (some 76)) → lv 1 = some (jI x1) → lv 2 = some (jI x2) → lv 3 = some (jI x3) → ey (mm_xt L xs) 0 271 40 lv [jI (if (jw x3) = 0 then 0 else (x3 - 1)), jI x2, jR (some 119), jI v2, jI (2 * x3), jR (some 120)] (jhm b m) r := by
      intro lv g0 g1 g2 g3
      refine ey_iadd (cd_271 rfl) ?_
      obtain ⟨v4, e5, e⟩ := jbind e
      refine ey_iald (cd_271 rfl) (jhm_ai hb h6 (by decide) rfl e5) ?_
      refine ey_aload_n (cd_271 rfl) g0 ?_
      refine ey_getf_r (cd_271 rfl) mt_271 rfl rfl rfl (jhm_gr (q := 119) hb rfl) ?_
      refine ey_iload_n (cd_271 rfl) g2 ?_
      refine ey_iload_n (cd_271 rfl) g3 ?_
      refine ey_iadd (cd_271 rfl) ?_
      obtain ⟨v6, e7, e⟩ := jbind e
      refine ey_iald (cd_271 rfl) (jhm_ai hb h6 (by decide) rfl e7) ?_
      refine ey_iadd (cd_271 rfl) ?_
      refine ey_iconst (cd_271 rfl) ?_
      refine ey_iadd (cd_271 rfl) ?_
      refine ey_iconst (cd_271 rfl) ?_
      refine ey_ishr (cd_271 rfl) ?_
      refine ey_isub (cd_271 rfl) ?_
      obtain ⟨m8, e9, e⟩ := jbind e
      refine ey_iast (cd_271 rfl) (jhm_ta hb (by decide) rfl e9) ?_
      refine ey_iinc (cd_271 rfl) mt_271 rfl g3 ?_
      refine ey_goto (cd_271 rfl) rfl ?_
      cases e
      exact K (jup lv 3 (jI (x3 + 1))) g0 g1 (jup_pi (lv := lv) (j := 2) (v := jI (x3 + 1)) (z := x2) g2) rfl
    by_cases q11 : (jw x3) = 0
    · refine ey_yne (cd_271 rfl) rfl rfl (fun w => w q11) ?_
      refine ey_iconst (cd_271 rfl) ?_
      refine ey_goto (cd_271 rfl) rfl ?_
      exact ey_rs (s0 := [jI 0, jI x2, jR (some 119), jI v2, jI (2 * x3), jR (some 120)]) (s1 := [jI (if (jw x3) = 0 then 0 else (x3 - 1)), jI x2, jR (some 119), jI v2, jI (2 * x3), jR (some 120)]) (by rw [show ((if (jw x3) = 0 then 0 else (x3 - 1)) : Int) = 0 from (if_pos q11)]) (K10 lv f0 f1 f2 f3)
    · refine ey_zne (cd_271 rfl) rfl rfl q11 ?_
      refine ey_iload_n (cd_271 rfl) f3 ?_
      refine ey_iconst (cd_271 rfl) ?_
      refine ey_isub (cd_271 rfl) ?_
      exact ey_rs (s0 := [jI (x3 - 1), jI x2, jR (some 119), jI v2, jI (2 * x3), jR (some 120)]) (s1 := [jI (if (jw x3) = 0 then 0 else (x3 - 1)), jI x2, jR (some 119), jI v2, jI (2 * x3), jR (some 120)]) (by rw [show ((if (jw x3) = 0 then 0 else (x3 - 1)) : Int) = (x3 - 1) from (if_neg q11)]) (K10 lv f0 f1 f2 f3)
theorem jk_271_l6 {L : Nat} {xs : Nat → Int32} {b : jH} (hb : 152 ≤ b.1) (h6 : b.1 ≤ 1000000) {x1 : Int} {x2 : Int} {x3 : Int} {m : jM} {x : jM} {r : mm_R} (e : jd_271_l6 x1 x2 x3 m = some x) (K : (∀ lv : jL, lv 0 = some (jR (some 76)) → lv 1 = some (jI x1) → lv 2 = some (jI x2) → ey (mm_xt L xs) 0 271 63 lv [] (jhm b x) r)) : ∀ lv : jL, lv 0 = some (jR (some 76)) → lv 1 = some (jI x1) → lv 2 = some (jI x2) → lv 3 = some (jI x3) → ey (mm_xt L xs) 0 271 6 lv [] (jhm b m) r := by
  unfold jd_271_l6 at e
  exact jlp_ok2 (P := fun s => ∀ lv : jL, lv 0 = some (jR (some 76)) → lv 1 = some (jI x1) → lv 2 = some (jI x2) → lv 3 = some (jI s.1) → ey (mm_xt L xs) 0 271 6 lv [] (jhm b s.2) r) (Q := fun x => (∀ lv : jL, lv 0 = some (jR (some 76)) → lv 1 = some (jI x1) → lv 2 = some (jI x2) → ey (mm_xt L xs) 0 271 63 lv [] (jhm b x) r)) (fun s q hq hk => jk_271_s6 hb h6 hq hk) jfu _ x e K
set_option maxRecDepth 100000 in
theorem jk_271_b119 {L : Nat} {xs : Nat → Int32} {b : jH} (hb : 152 ≤ b.1) (h6 : b.1 ≤ 1000000) {x1 : Int} {x2 : Int} {x3 : Int} {y0 : Int} {y2 : Int} {y3 : Int} {y4 : Int} {m : jM} {o : ((Int × jM) ⊕ jM)} {r : mm_R} (e : jd_271_b119 x1 x2 x3 y0 y2 y3 y4 m = some o) (K : jsm (fun s => (∀ lv : jL, lv 0 = some (jR (some 76)) → lv 1 = some (jI x1) → lv 2 = some (jI x2) → lv 3 = some (jI s.1) → ey (mm_xt L xs) 0 271 65 lv [] (jhm b s.2) r)) (fun x => (∀ lv : jL, lv 0 = some (jR (some 76)) → lv 1 = some (jI x1) → ey (mm_xt L xs) 0 271 131 lv [] (jhm b x) r)) o) : ∀ lv : jL, lv 0 = some (jR (some 76)) → lv 1 = some (jI x1) → lv 2 = some (jI x2) → lv 3 = some (jI x3) → ey (mm_xt L xs) 0 271 119 lv [jI y0, jR (some 120), jI y2, jI y3, jI y4, jR (some 120)] (jhm b m) r := by
  intro lv f0 f1 f2 f3
  unfold jd_271_b119 at e
  obtain ⟨v19, e20, e⟩ := jbind e
  refine ey_iald (cd_271 rfl) (jhm_ai hb h6 (by decide) rfl e20) ?_
  refine ey_iadd (cd_271 rfl) ?_
  refine ey_iconst (cd_271 rfl) ?_
  refine ey_ishr (cd_271 rfl) ?_
  refine ey_iadd (cd_271 rfl) ?_
  obtain ⟨m21, e22, e⟩ := jbind e
  refine ey_iast (cd_271 rfl) (jhm_ta hb (by decide) rfl e22) ?_
  refine ey_iinc (cd_271 rfl) mt_271 rfl f3 ?_
  refine ey_goto (cd_271 rfl) rfl ?_
  cases e
  exact K (jup lv 3 (jI (x3 + 1))) f0 f1 (jup_pi (lv := lv) (j := 2) (v := jI (x3 + 1)) (z := x2) f2) rfl
set_option maxRecDepth 100000 in
theorem jk_271_s65 {L : Nat} {xs : Nat → Int32} {b : jH} (hb : 152 ≤ b.1) (h6 : b.1 ≤ 1000000) {x1 : Int} {x2 : Int} {x3 : Int} {m : jM} {o : ((Int × jM) ⊕ jM)} {r : mm_R} (e : jd_271_s65 x1 x2 x3 m = some o) (K : jsm (fun s => (∀ lv : jL, lv 0 = some (jR (some 76)) → lv 1 = some (jI x1) → lv 2 = some (jI x2) → lv 3 = some (jI s.1) → ey (mm_xt L xs) 0 271 65 lv [] (jhm b s.2) r)) (fun x => (∀ lv : jL, lv 0 = some (jR (some 76)) → lv 1 = some (jI x1) → ey (mm_xt L xs) 0 271 131 lv [] (jhm b x) r)) o) : ∀ lv : jL, lv 0 = some (jR (some 76)) → lv 1 = some (jI x1) → lv 2 = some (jI x2) → lv 3 = some (jI x3) → ey (mm_xt L xs) 0 271 65 lv [] (jhm b m) r := by
  intro lv f0 f1 f2 f3
  unfold jd_271_s65 at e
  refine ey_iload_n (cd_271 rfl) f3 ?_
  refine ey_iload_n (cd_271 rfl) f2 ?_
  by_cases q14 : (jw x2) ≤ (jw x3)
  · rw [if_pos q14] at e
    refine ey_cge (cd_271 rfl) rfl rfl rfl q14 ?_
    cases e
    exact K lv f0 f1
  · rw [if_neg q14] at e
    refine ey_nge (cd_271 rfl) rfl rfl rfl q14 ?_
    refine ey_aload_n (cd_271 rfl) f0 ?_
    refine ey_getf_r (cd_271 rfl) mt_271 rfl rfl rfl (jhm_gr (q := 120) hb rfl) ?_
    refine ey_iconst (cd_271 rfl) ?_
    refine ey_iload_n (cd_271 rfl) f3 ?_
    refine ey_imul (cd_271 rfl) ?_
    refine ey_iconst (cd_271 rfl) ?_
    refine ey_iadd (cd_271 rfl) ?_
    refine ey_aload_n (cd_271 rfl) f0 ?_
    refine ey_getf_r (cd_271 rfl) mt_271 rfl rfl rfl (jhm_gr (q := 119) hb rfl) ?_
    refine ey_iload_n (cd_271 rfl) f2 ?_
    refine ey_iload_n (cd_271 rfl) f3 ?_
    refine ey_iadd (cd_271 rfl) ?_
    obtain ⟨v15, e16, e⟩ := jbind e
    refine ey_iald (cd_271 rfl) (jhm_ai hb h6 (by decide) rfl e16) ?_
    refine ey_aload_n (cd_271 rfl) f0 ?_
    refine ey_getf_r (cd_271 rfl) mt_271 rfl rfl rfl (jhm_gr (q := 120) hb rfl) ?_
    refine ey_iconst (cd_271 rfl) ?_
    refine ey_iload_n (cd_271 rfl) f3 ?_
    refine ey_imul (cd_271 rfl) ?_
    obtain ⟨v17, e18, e⟩ := jbind e
    refine ey_iald (cd_271 rfl) (jhm_ai hb h6 (by decide) rfl e18) ?_
    refine ey_aload_n (cd_271 rfl) f0 ?_
    refine ey_getf_r (cd_271 rfl) mt_271 rfl rfl rfl (jhm_gr (q := 120) hb rfl) ?_
    refine ey_iconst (cd_271 rfl) ?_
    refine ey_iload_n (cd_271 rfl) f3 ?_
    refine ey_imul (cd_271 rfl) ?_
    refine ey_iconst (cd_271 rfl) ?_
    refine ey_iadd (cd_271 rfl) ?_
    refine ey_iload_n (cd_271 rfl) f1 ?_
    have K23 : ∀ lv : jL, lv 0 = some (jR (some 76)) → lv 1 = some (jI x1) → lv 2 = some (jI x2) → lv 3 = some (jI x3) → ey (mm_xt L xs) 0 271 119 lv [jI (if (jw ((2 * x3) + 2)) = (jw x1) then (x1 - 2) else ((2 * x3) + 2)), jR (some 120), jI v17, jI v15, jI ((2 * x3) + 1), jR (some 120)] (jhm b m) r := by
      intro lv g0 g1 g2 g3
      exact jk_271_b119 hb h6 e K lv g0 g1 g2 g3
    by_cases q24 : (jw ((2 * x3) + 2)) = (jw x1)
    · refine ey_nne (cd_271 rfl) rfl rfl rfl (fun w => w q24) ?_
      refine ey_iload_n (cd_271 rfl) f1 ?_
      refine ey_iconst (cd_271 rfl) ?_
      refine ey_isub (cd_271 rfl) ?_
      refine ey_goto (cd_271 rfl) rfl ?_
      exact ey_rs (s0 := [jI (x1 - 2), jR (some 120), jI v17, jI v15, jI ((2 * x3) + 1), jR (some 120)]) (s1 := [jI (if (jw ((2 * x3) + 2)) = (jw x1) then (x1 - 2) else ((2 * x3) + 2)), jR (some 120), jI v17, jI v15, jI ((2 * x3) + 1), jR (some 120)]) (by rw [show ((if (jw ((2 * x3) + 2)) = (jw x1) then (x1 - 2) else ((2 * x3) + 2)) : Int) = (x1 - 2) from (if_pos q24)]) (K23 lv f0 f1 f2 f3)
    · refine ey_cne (cd_271 rfl) rfl rfl rfl q24 ?_
      refine ey_iconst (cd_271 rfl) ?_
      refine ey_iload_n (cd_271 rfl) f3 ?_
      refine ey_imul (cd_271 rfl) ?_
      refine ey_iconst (cd_271 rfl) ?_
      refine ey_iadd (cd_271 rfl) ?_
      exact ey_rs (s0 := [jI ((2 * x3) + 2), jR (some 120), jI v17, jI v15, jI ((2 * x3) + 1), jR (some 120)]) (s1 := [jI (if (jw ((2 * x3) + 2)) = (jw x1) then (x1 - 2) else ((2 * x3) + 2)), jR (some 120), jI v17, jI v15, jI ((2 * x3) + 1), jR (some 120)]) (by rw [show ((if (jw ((2 * x3) + 2)) = (jw x1) then (x1 - 2) else ((2 * x3) + 2)) : Int) = ((2 * x3) + 2) from (if_neg q24)]) (K23 lv f0 f1 f2 f3)
theorem jk_271_l65 {L : Nat} {xs : Nat → Int32} {b : jH} (hb : 152 ≤ b.1) (h6 : b.1 ≤ 1000000) {x1 : Int} {x2 : Int} {x3 : Int} {m : jM} {x : jM} {r : mm_R} (e : jd_271_l65 x1 x2 x3 m = some x) (K : (∀ lv : jL, lv 0 = some (jR (some 76)) → lv 1 = some (jI x1) → ey (mm_xt L xs) 0 271 131 lv [] (jhm b x) r)) : ∀ lv : jL, lv 0 = some (jR (some 76)) → lv 1 = some (jI x1) → lv 2 = some (jI x2) → lv 3 = some (jI x3) → ey (mm_xt L xs) 0 271 65 lv [] (jhm b m) r := by
  unfold jd_271_l65 at e
  exact jlp_ok2 (P := fun s => ∀ lv : jL, lv 0 = some (jR (some 76)) → lv 1 = some (jI x1) → lv 2 = some (jI x2) → lv 3 = some (jI s.1) → ey (mm_xt L xs) 0 271 65 lv [] (jhm b s.2) r) (Q := fun x => (∀ lv : jL, lv 0 = some (jR (some 76)) → lv 1 = some (jI x1) → ey (mm_xt L xs) 0 271 131 lv [] (jhm b x) r)) (fun s q hq hk => jk_271_s65 hb h6 hq hk) jfu _ x e K
set_option maxRecDepth 100000 in
theorem jk_271_s133 {L : Nat} {xs : Nat → Int32} {b : jH} (hb : 152 ≤ b.1) (h6 : b.1 ≤ 1000000) {x1 : Int} {x3 : Int} {m : jM} {o : ((Int × jM) ⊕ jM)} {r : mm_R} (e : jd_271_s133 x1 x3 m = some o) (K : jsm (fun s => (∀ lv : jL, lv 0 = some (jR (some 76)) → lv 1 = some (jI x1) → lv 3 = some (jI s.1) → ey (mm_xt L xs) 0 271 133 lv [] (jhm b s.2) r)) (fun x => (∀ lv : jL, ey (mm_xt L xs) 0 271 156 lv [] (jhm b x) r)) o) : ∀ lv : jL, lv 0 = some (jR (some 76)) → lv 1 = some (jI x1) → lv 3 = some (jI x3) → ey (mm_xt L xs) 0 271 133 lv [] (jhm b m) r := by
  intro lv f0 f1 f3
  unfold jd_271_s133 at e
  refine ey_iload_n (cd_271 rfl) f3 ?_
  refine ey_iload_n (cd_271 rfl) f1 ?_
  by_cases q27 : (jw x1) ≤ (jw x3)
  · rw [if_pos q27] at e
    refine ey_cge (cd_271 rfl) rfl rfl rfl q27 ?_
    cases e
    exact K lv 
  · rw [if_neg q27] at e
    refine ey_nge (cd_271 rfl) rfl rfl rfl q27 ?_
    refine ey_aload_n (cd_271 rfl) f0 ?_
    refine ey_getf_r (cd_271 rfl) mt_271 rfl rfl rfl (jhm_gr (q := 119) hb rfl) ?_
    refine ey_iload_n (cd_271 rfl) f3 ?_
    refine ey_aload_n (cd_271 rfl) f0 ?_
    refine ey_getf_r (cd_271 rfl) mt_271 rfl rfl rfl (jhm_gr (q := 120) hb rfl) ?_
    refine ey_iload_n (cd_271 rfl) f3 ?_
    obtain ⟨v28, e29, e⟩ := jbind e
    refine ey_iald (cd_271 rfl) (jhm_ai hb h6 (by decide) rfl e29) ?_
    obtain ⟨m30, e31, e⟩ := jbind e
    refine ey_iast (cd_271 rfl) (jhm_ta hb (by decide) rfl e31) ?_
    refine ey_iinc (cd_271 rfl) mt_271 rfl f3 ?_
    refine ey_goto (cd_271 rfl) rfl ?_
    cases e
    exact K (jup lv 3 (jI (x3 + 1))) f0 f1 rfl
theorem jk_271_l133 {L : Nat} {xs : Nat → Int32} {b : jH} (hb : 152 ≤ b.1) (h6 : b.1 ≤ 1000000) {x1 : Int} {x3 : Int} {m : jM} {x : jM} {r : mm_R} (e : jd_271_l133 x1 x3 m = some x) (K : (∀ lv : jL, ey (mm_xt L xs) 0 271 156 lv [] (jhm b x) r)) : ∀ lv : jL, lv 0 = some (jR (some 76)) → lv 1 = some (jI x1) → lv 3 = some (jI x3) → ey (mm_xt L xs) 0 271 133 lv [] (jhm b m) r := by
  unfold jd_271_l133 at e
  exact jlp_ok2 (P := fun s => ∀ lv : jL, lv 0 = some (jR (some 76)) → lv 1 = some (jI x1) → lv 3 = some (jI s.1) → ey (mm_xt L xs) 0 271 133 lv [] (jhm b s.2) r) (Q := fun x => (∀ lv : jL, ey (mm_xt L xs) 0 271 156 lv [] (jhm b x) r)) (fun s q hq hk => jk_271_s133 hb h6 hq hk) jfu _ x e K
set_option maxRecDepth 100000 in
theorem ok_271 {L : Nat} {xs : Nat → Int32} {b : jH} (hb : 152 ≤ b.1) (h6 : b.1 ≤ 1000000) {p0 : Int} {m : jM} {o : jM} (e : jd_271 p0 m = some o) : mm_Runs (mm_xt L xs) 1 271 ([jR (some 76), jI p0].map jcv) (jaH (jhm b m)) (.inl (none, jaH (jhm b o))) := by
  refine ey_run0 _ mt_271 (jsl_s rfl) ?_
  unfold jd_271 at e
  refine ey_iload_n (cd_271 rfl) rfl ?_
  refine ey_iconst (cd_271 rfl) ?_
  refine ey_idiv (cd_271 rfl) (by decide) ?_
  refine ey_istore_n (cd_271 rfl) mt_271 rfl ?_
  refine ey_iconst (cd_271 rfl) ?_
  refine ey_istore_n (cd_271 rfl) mt_271 rfl ?_
  obtain ⟨x12, e13, e⟩ := jbind e
  refine jk_271_l6 hb h6 e13 ?_ (jup (jup (jlf (jla 0 [jR (some 76), jI p0])) 2 (jI (jdiv p0 2))) 3 (jI 0)) rfl (jup_o rfl (jup_pi (lv := (jlf (jla 0 [jR (some 76), jI p0]))) (j := 1) (v := jI (jdiv p0 2)) (z := p0) rfl)) (jup_pi (lv := (jup (jlf (jla 0 [jR (some 76), jI p0])) 2 (jI (jdiv p0 2)))) (j := 2) (v := jI 0) (z := (jdiv p0 2)) rfl) rfl
  intro lv g0 g1 g2
  refine ey_iconst (cd_271 rfl) ?_
  refine ey_istore_n (cd_271 rfl) mt_271 rfl ?_
  obtain ⟨x25, e26, e⟩ := jbind e
  refine jk_271_l65 hb h6 e26 ?_ (jup lv 3 (jI 0)) g0 g1 (jup_pi (lv := lv) (j := 2) (v := jI 0) (z := (jdiv p0 2)) g2) rfl
  intro lv g0 g1
  refine ey_iconst (cd_271 rfl) ?_
  refine ey_istore_n (cd_271 rfl) mt_271 rfl ?_
  obtain ⟨x32, e33, e⟩ := jbind e
  refine jk_271_l133 hb h6 e33 ?_ (jup lv 3 (jI 0)) g0 g1 rfl
  intro lv 
  cases e
  exact ey_retv (cd_271 rfl) mt_271 rfl
theorem cd_272 {pc : Nat} {i : Instr × Nat} (h : mm_lk mm_c272 pc = some i) : mm_cd 272 pc = some i := h
theorem mt_272 : mm_MT 272 = (12, 4, none, 1, 0, []) := rfl
set_option maxRecDepth 100000 in
theorem jk_272_b60 {L : Nat} {xs : Nat → Int32} {b : jH} (hb : 152 ≤ b.1) (h6 : b.1 ≤ 1000000) {x1 : Int} {x2 : Int} {x3 : Int} {y0 : Int} {y2 : Int} {y3 : Int} {y4 : Int} {m : jM} {o : ((Int × jM) ⊕ jM)} {r : mm_R} (e : jd_272_b60 x1 x2 x3 y0 y2 y3 y4 m = some o) (K : jsm (fun s => (∀ lv : jL, lv 0 = some (jR (some 76)) → lv 1 = some (jI x1) → lv 2 = some (jI x2) → lv 3 = some (jI s.1) → ey (mm_xt L xs) 0 272 6 lv [] (jhm b s.2) r)) (fun x => (∀ lv : jL, lv 0 = some (jR (some 76)) → lv 1 = some (jI x1) → lv 2 = some (jI x2) → ey (mm_xt L xs) 0 272 72 lv [] (jhm b x) r)) o) : ∀ lv : jL, lv 0 = some (jR (some 76)) → lv 1 = some (jI x1) → lv 2 = some (jI x2) → lv 3 = some (jI x3) → ey (mm_xt L xs) 0 272 60 lv [jI y0, jR (some 119), jI y2, jI y3, jI y4, jR (some 120)] (jhm b m) r := by
  intro lv f0 f1 f2 f3
  unfold jd_272_b60 at e
  obtain ⟨v6, e7, e⟩ := jbind e
  refine ey_iald (cd_272 rfl) (jhm_ai hb h6 (by decide) rfl e7) ?_
  refine ey_iadd (cd_272 rfl) ?_
  refine ey_iconst (cd_272 rfl) ?_
  refine ey_ishr (cd_272 rfl) ?_
  refine ey_isub (cd_272 rfl) ?_
  obtain ⟨m8, e9, e⟩ := jbind e
  refine ey_iast (cd_272 rfl) (jhm_ta hb (by decide) rfl e9) ?_
  refine ey_iinc (cd_272 rfl) mt_272 rfl f3 ?_
  refine ey_goto (cd_272 rfl) rfl ?_
  cases e
  exact K (jup lv 3 (jI (x3 + 1))) f0 f1 (jup_pi (lv := lv) (j := 2) (v := jI (x3 + 1)) (z := x2) f2) rfl
set_option maxRecDepth 100000 in
theorem jk_272_s6 {L : Nat} {xs : Nat → Int32} {b : jH} (hb : 152 ≤ b.1) (h6 : b.1 ≤ 1000000) {x1 : Int} {x2 : Int} {x3 : Int} {m : jM} {o : ((Int × jM) ⊕ jM)} {r : mm_R} (e : jd_272_s6 x1 x2 x3 m = some o) (K : jsm (fun s => (∀ lv : jL, lv 0 = some (jR (some 76)) → lv 1 = some (jI x1) → lv 2 = some (jI x2) → lv 3 = some (jI s.1) → ey (mm_xt L xs) 0 272 6 lv [] (jhm b s.2) r)) (fun x => (∀ lv : jL, lv 0 = some (jR (some 76)) → lv 1 = some (jI x1) → lv 2 = some (jI x2) → ey (mm_xt L xs) 0 272 72 lv [] (jhm b x) r)) o) : ∀ lv : jL, lv 0 = some (jR (some 76)) → lv 1 = some (jI x1) → lv 2 = some (jI x2) → lv 3 = some (jI x3) → ey (mm_xt L xs) 0 272 6 lv [] (jhm b m) r := by
  intro lv f0 f1 f2 f3
  unfold jd_272_s6 at e
  refine ey_iload_n (cd_272 rfl) f3 ?_
  refine ey_iload_n (cd_272 rfl) f2 ?_
  by_cases q1 : (jw x2) ≤ (jw x3)
  · rw [if_pos q1] at e
    refine ey_cge (cd_272 rfl) rfl rfl rfl q1 ?_
    cases e
    exact K lv f0 f1 f2
  · rw [if_neg q1] at e
    refine ey_nge (cd_272 rfl) rfl rfl rfl q1 ?_
    refine ey_aload_n (cd_272 rfl) f0 ?_
    refine ey_getf_r (cd_272 rfl) mt_272 rfl rfl rfl (jhm_gr (q := 120) hb rfl) ?_
    refine ey_iload_n (cd_272 rfl) f2 ?_
    refine ey_iload_n (cd_272 rfl) f3 ?_
    refine ey_iadd (cd_272 rfl) ?_
    refine ey_aload_n (cd_272 rfl) f0 ?_
    refine ey_getf_r (cd_272 rfl) mt_272 rfl rfl rfl (jhm_gr (q := 119) hb rfl) ?_
    refine ey_iconst (cd_272 rfl) ?_
    refine ey_iload_n (cd_272 rfl) f3 ?_
    refine ey_imul (cd_272 rfl) ?_
    refine ey_iconst (cd_272 rfl) ?_
    refine ey_iadd (cd_272 rfl) ?_
    obtain ⟨v2, e3, e⟩ := jbind e
    refine ey_iald (cd_272 rfl) (jhm_ai hb h6 (by decide) rfl e3) ?_
    refine ey_aload_n (cd_272 rfl) f0 ?_
    refine ey_getf_r (cd_272 rfl) mt_272 rfl rfl rfl (jhm_gr (q := 119) hb rfl) ?_
    refine ey_iconst (cd_272 rfl) ?_
    refine ey_iload_n (cd_272 rfl) f3 ?_
    refine ey_imul (cd_272 rfl) ?_
    obtain ⟨v4, e5, e⟩ := jbind e
    refine ey_iald (cd_272 rfl) (jhm_ai hb h6 (by decide) rfl e5) ?_
    refine ey_aload_n (cd_272 rfl) f0 ?_
    refine ey_getf_r (cd_272 rfl) mt_272 rfl rfl rfl (jhm_gr (q := 119) hb rfl) ?_
    refine ey_iconst (cd_272 rfl) ?_
    refine ey_iload_n (cd_272 rfl) f3 ?_
    refine ey_imul (cd_272 rfl) ?_
    refine ey_iconst (cd_272 rfl) ?_
    refine ey_iadd (cd_272 rfl) ?_
    refine ey_iload_n (cd_272 rfl) f1 ?_
    have K10 : ∀ lv : jL, lv 0 = some (jR (some 76)) → lv 1 = some (jI x1) → lv 2 = some (jI x2) → lv 3 = some (jI x3) → ey (mm_xt L xs) 0 272 60 lv [jI (if (jw ((2 * x3) + 2)) = (jw x1) then (x1 - 2) else ((2 * x3) + 2)), jR (some 119), jI v4, jI v2, jI (x2 + x3), jR (some 120)] (jhm b m) r := by
      intro lv g0 g1 g2 g3
      exact jk_272_b60 hb h6 e K lv g0 g1 g2 g3
    by_cases q11 : (jw ((2 * x3) + 2)) = (jw x1)
    · refine ey_nne (cd_272 rfl) rfl rfl rfl (fun w => w q11) ?_
      refine ey_iload_n (cd_272 rfl) f1 ?_
      refine ey_iconst (cd_272 rfl) ?_
      refine ey_isub (cd_272 rfl) ?_
      refine ey_goto (cd_272 rfl) rfl ?_
      exact ey_rs (s0 := [jI (x1 - 2), jR (some 119), jI v4, jI v2, jI (x2 + x3), jR (some 120)]) (s1 := [jI (if (jw ((2 * x3) + 2)) = (jw x1) then (x1 - 2) else ((2 * x3) + 2)), jR (some 119), jI v4, jI v2, jI (x2 + x3), jR (some 120)]) (by rw [show ((if (jw ((2 * x3) + 2)) = (jw x1) then (x1 - 2) else ((2 * x3) + 2)) : Int) = (x1 - 2) from (if_pos q11)]) (K10 lv f0 f1 f2 f3)
    · refine ey_cne (cd_272 rfl) rfl rfl rfl q11 ?_
      refine ey_iconst (cd_272 rfl) ?_
      refine ey_iload_n (cd_272 rfl) f3 ?_
      refine ey_imul (cd_272 rfl) ?_
      refine ey_iconst (cd_272 rfl) ?_
      refine ey_iadd (cd_272 rfl) ?_
      exact ey_rs (s0 := [jI ((2 * x3) + 2), jR (some 119), jI v4, jI v2, jI (x2 + x3), jR (some 120)]) (s1 := [jI (if (jw ((2 * x3) + 2)) = (jw x1) then (x1 - 2) else ((2 * x3) + 2)), jR (some 119), jI v4, jI v2, jI (x2 + x3), jR (some 120)]) (by rw [show ((if (jw ((2 * x3) + 2)) = (jw x1) then (x1 - 2) else ((2 * x3) + 2)) : Int) = ((2 * x3) + 2) from (if_neg q11)]) (K10 lv f0 f1 f2 f3)
theorem jk_272_l6 {L : Nat} {xs : Nat → Int32} {b : jH} (hb : 152 ≤ b.1) (h6 : b.1 ≤ 1000000) {x1 : Int} {x2 : Int} {x3 : Int} {m : jM} {x : jM} {r : mm_R} (e : jd_272_l6 x1 x2 x3 m = some x) (K : (∀ lv : jL, lv 0 = some (jR (some 76)) → lv 1 = some (jI x1) → lv 2 = some (jI x2) → ey (mm_xt L xs) 0 272 72 lv [] (jhm b x) r)) : ∀ lv : jL, lv 0 = some (jR (some 76)) → lv 1 = some (jI x1) → lv 2 = some (jI x2) → lv 3 = some (jI x3) → ey (mm_xt L xs) 0 272 6 lv [] (jhm b m) r := by
  unfold jd_272_l6 at e
  exact jlp_ok2 (P := fun s => ∀ lv : jL, lv 0 = some (jR (some 76)) → lv 1 = some (jI x1) → lv 2 = some (jI x2) → lv 3 = some (jI s.1) → ey (mm_xt L xs) 0 272 6 lv [] (jhm b s.2) r) (Q := fun x => (∀ lv : jL, lv 0 = some (jR (some 76)) → lv 1 = some (jI x1) → lv 2 = some (jI x2) → ey (mm_xt L xs) 0 272 72 lv [] (jhm b x) r)) (fun s q hq hk => jk_272_s6 hb h6 hq hk) jfu _ x e K
set_option maxRecDepth 100000 in
theorem jk_272_s74 {L : Nat} {xs : Nat → Int32} {b : jH} (hb : 152 ≤ b.1) (h6 : b.1 ≤ 1000000) {x1 : Int} {x2 : Int} {x3 : Int} {m : jM} {o : ((Int × jM) ⊕ jM)} {r : mm_R} (e : jd_272_s74 x1 x2 x3 m = some o) (K : jsm (fun s => (∀ lv : jL, lv 0 = some (jR (some 76)) → lv 1 = some (jI x1) → lv 2 = some (jI x2) → lv 3 = some (jI s.1) → ey (mm_xt L xs) 0 272 74 lv [] (jhm b s.2) r)) (fun x => (∀ lv : jL, lv 0 = some (jR (some 76)) → lv 1 = some (jI x1) → ey (mm_xt L xs) 0 272 131 lv [] (jhm b x) r)) o) : ∀ lv : jL, lv 0 = some (jR (some 76)) → lv 1 = some (jI x1) → lv 2 = some (jI x2) → lv 3 = some (jI x3) → ey (mm_xt L xs) 0 272 74 lv [] (jhm b m) r := by
  intro lv f0 f1 f2 f3
  unfold jd_272_s74 at e
  refine ey_iload_n (cd_272 rfl) f3 ?_
  refine ey_iload_n (cd_272 rfl) f2 ?_
  by_cases q14 : (jw x2) ≤ (jw x3)
  · rw [if_pos q14] at e
    refine ey_cge (cd_272 rfl) rfl rfl rfl q14 ?_
    cases e
    exact K lv f0 f1
  · rw [if_neg q14] at e
    refine ey_nge (cd_272 rfl) rfl rfl rfl q14 ?_
    refine ey_aload_n (cd_272 rfl) f0 ?_
    refine ey_getf_r (cd_272 rfl) mt_272 rfl rfl rfl (jhm_gr (q := 120) hb rfl) ?_
    refine ey_iload_n (cd_272 rfl) f3 ?_
    refine ey_aload_n (cd_272 rfl) f0 ?_
    refine ey_getf_r (cd_272 rfl) mt_272 rfl rfl rfl (jhm_gr (q := 119) hb rfl) ?_
    refine ey_iconst (cd_272 rfl) ?_
    refine ey_iload_n (cd_272 rfl) f3 ?_
    refine ey_imul (cd_272 rfl) ?_
    obtain ⟨v15, e16, e⟩ := jbind e
    refine ey_iald (cd_272 rfl) (jhm_ai hb h6 (by decide) rfl e16) ?_
    refine ey_aload_n (cd_272 rfl) f0 ?_
    refine ey_getf_r (cd_272 rfl) mt_272 rfl rfl rfl (jhm_gr (q := 120) hb rfl) ?_
    refine ey_iload_n (cd_272 rfl) f2 ?_
    refine ey_iload_n (cd_272 rfl) f3 ?_
    have K23 : ∀ lv : jL, lv 0 = some (jR (some 76)) → lv 1 = some (jI x1) → lv 2 = some (jI x2) → lv 3 = some (jI x3) → ey (mm_xt L xs) 0 272 108 lv [jI (if (jw x3) = 0 then 0 else (x3 - 1)), jI x2, jR (some 120), jI v15, jI x3, jR (some 120)] (jhm b m) r := by
      intro lv g0 g1 g2 g3
      refine ey_iadd (cd_272 rfl) ?_
      obtain ⟨v17, e18, e⟩ := jbind e
      refine ey_iald (cd_272 rfl) (jhm_ai hb h6 (by decide) rfl e18) ?_
      refine ey_aload_n (cd_272 rfl) g0 ?_
      refine ey_getf_r (cd_272 rfl) mt_272 rfl rfl rfl (jhm_gr (q := 120) hb rfl) ?_
      refine ey_iload_n (cd_272 rfl) g2 ?_
      refine ey_iload_n (cd_272 rfl) g3 ?_
      refine ey_iadd (cd_272 rfl) ?_
      obtain ⟨v19, e20, e⟩ := jbind e
      refine ey_iald (cd_272 rfl) (jhm_ai hb h6 (by decide) rfl e20) ?_
      refine ey_iadd (cd_272 rfl) ?_
      refine ey_iconst (cd_272 rfl) ?_
      refine ey_iadd (cd_272 rfl) ?_
      refine ey_iconst (cd_272 rfl) ?_
      refine ey_ishr (cd_272 rfl) ?_
      refine ey_iadd (cd_272 rfl) ?_
      obtain ⟨m21, e22, e⟩ := jbind e
      refine ey_iast (cd_272 rfl) (jhm_ta hb (by decide) rfl e22) ?_
      refine ey_iinc (cd_272 rfl) mt_272 rfl g3 ?_
      refine ey_goto (cd_272 rfl) rfl ?_
      cases e
      exact K (jup lv 3 (jI (x3 + 1))) g0 g1 (jup_pi (lv := lv) (j := 2) (v := jI (x3 + 1)) (z := x2) g2) rfl
    by_cases q24 : (jw x3) = 0
    · refine ey_yne (cd_272 rfl) rfl rfl (fun w => w q24) ?_
      refine ey_iconst (cd_272 rfl) ?_
      refine ey_goto (cd_272 rfl) rfl ?_
      exact ey_rs (s0 := [jI 0, jI x2, jR (some 120), jI v15, jI x3, jR (some 120)]) (s1 := [jI (if (jw x3) = 0 then 0 else (x3 - 1)), jI x2, jR (some 120), jI v15, jI x3, jR (some 120)]) (by rw [show ((if (jw x3) = 0 then 0 else (x3 - 1)) : Int) = 0 from (if_pos q24)]) (K23 lv f0 f1 f2 f3)
    · refine ey_zne (cd_272 rfl) rfl rfl q24 ?_
      refine ey_iload_n (cd_272 rfl) f3 ?_
      refine ey_iconst (cd_272 rfl) ?_
      refine ey_isub (cd_272 rfl) ?_
      exact ey_rs (s0 := [jI (x3 - 1), jI x2, jR (some 120), jI v15, jI x3, jR (some 120)]) (s1 := [jI (if (jw x3) = 0 then 0 else (x3 - 1)), jI x2, jR (some 120), jI v15, jI x3, jR (some 120)]) (by rw [show ((if (jw x3) = 0 then 0 else (x3 - 1)) : Int) = (x3 - 1) from (if_neg q24)]) (K23 lv f0 f1 f2 f3)
theorem jk_272_l74 {L : Nat} {xs : Nat → Int32} {b : jH} (hb : 152 ≤ b.1) (h6 : b.1 ≤ 1000000) {x1 : Int} {x2 : Int} {x3 : Int} {m : jM} {x : jM} {r : mm_R} (e : jd_272_l74 x1 x2 x3 m = some x) (K : (∀ lv : jL, lv 0 = some (jR (some 76)) → lv 1 = some (jI x1) → ey (mm_xt L xs) 0 272 131 lv [] (jhm b x) r)) : ∀ lv : jL, lv 0 = some (jR (some 76)) → lv 1 = some (jI x1) → lv 2 = some (jI x2) → lv 3 = some (jI x3) → ey (mm_xt L xs) 0 272 74 lv [] (jhm b m) r := by
  unfold jd_272_l74 at e
  exact jlp_ok2 (P := fun s => ∀ lv : jL, lv 0 = some (jR (some 76)) → lv 1 = some (jI x1) → lv 2 = some (jI x2) → lv 3 = some (jI s.1) → ey (mm_xt L xs) 0 272 74 lv [] (jhm b s.2) r) (Q := fun x => (∀ lv : jL, lv 0 = some (jR (some 76)) → lv 1 = some (jI x1) → ey (mm_xt L xs) 0 272 131 lv [] (jhm b x) r)) (fun s q hq hk => jk_272_s74 hb h6 hq hk) jfu _ x e K
set_option maxRecDepth 100000 in
theorem jk_272_s133 {L : Nat} {xs : Nat → Int32} {b : jH} (hb : 152 ≤ b.1) (h6 : b.1 ≤ 1000000) {x1 : Int} {x3 : Int} {m : jM} {o : ((Int × jM) ⊕ jM)} {r : mm_R} (e : jd_272_s133 x1 x3 m = some o) (K : jsm (fun s => (∀ lv : jL, lv 0 = some (jR (some 76)) → lv 1 = some (jI x1) → lv 3 = some (jI s.1) → ey (mm_xt L xs) 0 272 133 lv [] (jhm b s.2) r)) (fun x => (∀ lv : jL, ey (mm_xt L xs) 0 272 156 lv [] (jhm b x) r)) o) : ∀ lv : jL, lv 0 = some (jR (some 76)) → lv 1 = some (jI x1) → lv 3 = some (jI x3) → ey (mm_xt L xs) 0 272 133 lv [] (jhm b m) r := by
  intro lv f0 f1 f3
  unfold jd_272_s133 at e
  refine ey_iload_n (cd_272 rfl) f3 ?_
  refine ey_iload_n (cd_272 rfl) f1 ?_
  by_cases q27 : (jw x1) ≤ (jw x3)
  · rw [if_pos q27] at e
    refine ey_cge (cd_272 rfl) rfl rfl rfl q27 ?_
    cases e
    exact K lv 
  · rw [if_neg q27] at e
    refine ey_nge (cd_272 rfl) rfl rfl rfl q27 ?_
    refine ey_aload_n (cd_272 rfl) f0 ?_
    refine ey_getf_r (cd_272 rfl) mt_272 rfl rfl rfl (jhm_gr (q := 119) hb rfl) ?_
    refine ey_iload_n (cd_272 rfl) f3 ?_
    refine ey_aload_n (cd_272 rfl) f0 ?_
    refine ey_getf_r (cd_272 rfl) mt_272 rfl rfl rfl (jhm_gr (q := 120) hb rfl) ?_
    refine ey_iload_n (cd_272 rfl) f3 ?_
    obtain ⟨v28, e29, e⟩ := jbind e
    refine ey_iald (cd_272 rfl) (jhm_ai hb h6 (by decide) rfl e29) ?_
    obtain ⟨m30, e31, e⟩ := jbind e
    refine ey_iast (cd_272 rfl) (jhm_ta hb (by decide) rfl e31) ?_
    refine ey_iinc (cd_272 rfl) mt_272 rfl f3 ?_
    refine ey_goto (cd_272 rfl) rfl ?_
    cases e
    exact K (jup lv 3 (jI (x3 + 1))) f0 f1 rfl
theorem jk_272_l133 {L : Nat} {xs : Nat → Int32} {b : jH} (hb : 152 ≤ b.1) (h6 : b.1 ≤ 1000000) {x1 : Int} {x3 : Int} {m : jM} {x : jM} {r : mm_R} (e : jd_272_l133 x1 x3 m = some x) (K : (∀ lv : jL, ey (mm_xt L xs) 0 272 156 lv [] (jhm b x) r)) : ∀ lv : jL, lv 0 = some (jR (some 76)) → lv 1 = some (jI x1) → lv 3 = some (jI x3) → ey (mm_xt L xs) 0 272 133 lv [] (jhm b m) r := by
  unfold jd_272_l133 at e
  exact jlp_ok2 (P := fun s => ∀ lv : jL, lv 0 = some (jR (some 76)) → lv 1 = some (jI x1) → lv 3 = some (jI s.1) → ey (mm_xt L xs) 0 272 133 lv [] (jhm b s.2) r) (Q := fun x => (∀ lv : jL, ey (mm_xt L xs) 0 272 156 lv [] (jhm b x) r)) (fun s q hq hk => jk_272_s133 hb h6 hq hk) jfu _ x e K
set_option maxRecDepth 100000 in
theorem ok_272 {L : Nat} {xs : Nat → Int32} {b : jH} (hb : 152 ≤ b.1) (h6 : b.1 ≤ 1000000) {p0 : Int} {m : jM} {o : jM} (e : jd_272 p0 m = some o) : mm_Runs (mm_xt L xs) 1 272 ([jR (some 76), jI p0].map jcv) (jaH (jhm b m)) (.inl (none, jaH (jhm b o))) := by
  refine ey_run0 _ mt_272 (jsl_s rfl) ?_
  unfold jd_272 at e
  refine ey_iload_n (cd_272 rfl) rfl ?_
  refine ey_iconst (cd_272 rfl) ?_
  refine ey_idiv (cd_272 rfl) (by decide) ?_
  refine ey_istore_n (cd_272 rfl) mt_272 rfl ?_
  refine ey_iconst (cd_272 rfl) ?_
  refine ey_istore_n (cd_272 rfl) mt_272 rfl ?_
  obtain ⟨x12, e13, e⟩ := jbind e
  refine jk_272_l6 hb h6 e13 ?_ (jup (jup (jlf (jla 0 [jR (some 76), jI p0])) 2 (jI (jdiv p0 2))) 3 (jI 0)) rfl (jup_o rfl (jup_pi (lv := (jlf (jla 0 [jR (some 76), jI p0]))) (j := 1) (v := jI (jdiv p0 2)) (z := p0) rfl)) (jup_pi (lv := (jup (jlf (jla 0 [jR (some 76), jI p0])) 2 (jI (jdiv p0 2)))) (j := 2) (v := jI 0) (z := (jdiv p0 2)) rfl) rfl
  intro lv g0 g1 g2
  refine ey_iconst (cd_272 rfl) ?_
  refine ey_istore_n (cd_272 rfl) mt_272 rfl ?_
  obtain ⟨x25, e26, e⟩ := jbind e
  refine jk_272_l74 hb h6 e26 ?_ (jup lv 3 (jI 0)) g0 g1 (jup_pi (lv := lv) (j := 2) (v := jI 0) (z := (jdiv p0 2)) g2) rfl
  intro lv g0 g1
  refine ey_iconst (cd_272 rfl) ?_
  refine ey_istore_n (cd_272 rfl) mt_272 rfl ?_
  obtain ⟨x32, e33, e⟩ := jbind e
  refine jk_272_l133 hb h6 e33 ?_ (jup lv 3 (jI 0)) g0 g1 rfl
  intro lv 
  cases e
  exact ey_retv (cd_272 rfl) mt_272 rfl
theorem cd_273 {pc : Nat} {i : Instr × Nat} (h : mm_lk mm_c273 pc = some i) : mm_cd 273 pc = some i := h
theorem mt_273 : mm_MT 273 = (12, 9, none, 5, 0, []) := rfl
set_option maxRecDepth 100000 in
theorem jk_273_s33 {L : Nat} {xs : Nat → Int32} {b : jH} (hb : 152 ≤ b.1) (h6 : b.1 ≤ 1000000) {x1 : Int} {x2 : Int} {x3 : Int} {x4 : Int} {x5 : Int} {x6 : Int} {x7 : Int} {x8 : Int} {m : jM} {o : ((Int × jM) ⊕ jM)} {r : mm_R} (e : jd_273_s33 x1 x2 x3 x4 x5 x6 x7 x8 m = some o) (K : jsm (fun s => (∀ lv : jL, lv 0 = some (jR (some 76)) → lv 1 = some (jI x1) → lv 2 = some (jI x2) → lv 3 = some (jI x3) → lv 4 = some (jI x4) → lv 5 = some (jI x5) → lv 6 = some (jI x6) → lv 7 = some (jI x7) → lv 8 = some (jI s.1) → ey (mm_xt L xs) 1 273 33 lv [] (jhm b s.2) r)) (fun x => (∀ lv : jL, lv 0 = some (jR (some 76)) → lv 1 = some (jI x1) → lv 2 = some (jI x2) → lv 3 = some (jI x3) → lv 4 = some (jI x4) → lv 5 = some (jI x5) → lv 6 = some (jI x6) → lv 7 = some (jI x7) → ey (mm_xt L xs) 1 273 80 lv [] (jhm b x) r)) o) : ∀ lv : jL, lv 0 = some (jR (some 76)) → lv 1 = some (jI x1) → lv 2 = some (jI x2) → lv 3 = some (jI x3) → lv 4 = some (jI x4) → lv 5 = some (jI x5) → lv 6 = some (jI x6) → lv 7 = some (jI x7) → lv 8 = some (jI x8) → ey (mm_xt L xs) 1 273 33 lv [] (jhm b m) r := by
  intro lv f0 f1 f2 f3 f4 f5 f6 f7 f8
  unfold jd_273_s33 at e
  refine ey_iload (cd_273 rfl) f8 ?_
  refine ey_iload (cd_273 rfl) f6 ?_
  by_cases q4 : (jw x6) ≤ (jw x8)
  · rw [if_pos q4] at e
    refine ey_cge (cd_273 rfl) rfl rfl rfl q4 ?_
    cases e
    exact K lv f0 f1 f2 f3 f4 f5 f6 f7
  · rw [if_neg q4] at e
    refine ey_nge (cd_273 rfl) rfl rfl rfl q4 ?_
    refine ey_aload_n (cd_273 rfl) f0 ?_
    refine ey_getf_r (cd_273 rfl) mt_273 rfl rfl rfl (jhm_gr (q := 119) hb rfl) ?_
    refine ey_iload (cd_273 rfl) f8 ?_
    refine ey_aload_n (cd_273 rfl) f0 ?_
    refine ey_getf_r (cd_273 rfl) mt_273 rfl rfl rfl (jhm_gr (q := 118) hb rfl) ?_
    refine ey_iload (cd_273 rfl) f4 ?_
    have K9 : ∀ lv : jL, lv 0 = some (jR (some 76)) → lv 1 = some (jI x1) → lv 2 = some (jI x2) → lv 3 = some (jI x3) → lv 4 = some (jI x4) → lv 5 = some (jI x5) → lv 6 = some (jI x6) → lv 7 = some (jI x7) → lv 8 = some (jI x8) → ey (mm_xt L xs) 1 273 72 lv [jI (if (jw x4) = 0 then ((x1 * x8) + x7) else ((x1 * x7) + x8)), jR (some 118), jI x8, jR (some 119)] (jhm b m) r := by
      intro lv g0 g1 g2 g3 g4 g5 g6 g7 g8
      obtain ⟨v5, e6, e⟩ := jbind e
      refine ey_iald (cd_273 rfl) (jhm_ai hb h6 (by decide) rfl e6) ?_
      obtain ⟨m7, e8, e⟩ := jbind e
      refine ey_iast (cd_273 rfl) (jhm_ta hb (by decide) rfl e8) ?_
      refine ey_iinc (cd_273 rfl) mt_273 rfl g8 ?_
      refine ey_goto (cd_273 rfl) rfl ?_
      cases e
      exact K (jup lv 8 (jI (x8 + 1))) g0 g1 g2 g3 g4 g5 g6 (jup_pi (lv := lv) (j := 7) (v := jI (x8 + 1)) (z := x7) g7) rfl
    by_cases q10 : (jw x4) = 0
    · refine ey_zeq (cd_273 rfl) rfl rfl q10 ?_
      refine ey_iload_n (cd_273 rfl) f1 ?_
      refine ey_iload (cd_273 rfl) f8 ?_
      refine ey_imul (cd_273 rfl) ?_
      refine ey_iload (cd_273 rfl) f7 ?_
      refine ey_iadd (cd_273 rfl) ?_
      exact ey_rs (s0 := [jI ((x1 * x8) + x7), jR (some 118), jI x8, jR (some 119)]) (s1 := [jI (if (jw x4) = 0 then ((x1 * x8) + x7) else ((x1 * x7) + x8)), jR (some 118), jI x8, jR (some 119)]) (by rw [show ((if (jw x4) = 0 then ((x1 * x8) + x7) else ((x1 * x7) + x8)) : Int) = ((x1 * x8) + x7) from (if_pos q10)]) (K9 lv f0 f1 f2 f3 f4 f5 f6 f7 f8)
    · refine ey_yeq (cd_273 rfl) rfl rfl q10 ?_
      refine ey_iload_n (cd_273 rfl) f1 ?_
      refine ey_iload (cd_273 rfl) f7 ?_
      refine ey_imul (cd_273 rfl) ?_
      refine ey_iload (cd_273 rfl) f8 ?_
      refine ey_iadd (cd_273 rfl) ?_
      refine ey_goto (cd_273 rfl) rfl ?_
      exact ey_rs (s0 := [jI ((x1 * x7) + x8), jR (some 118), jI x8, jR (some 119)]) (s1 := [jI (if (jw x4) = 0 then ((x1 * x8) + x7) else ((x1 * x7) + x8)), jR (some 118), jI x8, jR (some 119)]) (by rw [show ((if (jw x4) = 0 then ((x1 * x8) + x7) else ((x1 * x7) + x8)) : Int) = ((x1 * x7) + x8) from (if_neg q10)]) (K9 lv f0 f1 f2 f3 f4 f5 f6 f7 f8)
theorem jk_273_l33 {L : Nat} {xs : Nat → Int32} {b : jH} (hb : 152 ≤ b.1) (h6 : b.1 ≤ 1000000) {x1 : Int} {x2 : Int} {x3 : Int} {x4 : Int} {x5 : Int} {x6 : Int} {x7 : Int} {x8 : Int} {m : jM} {x : jM} {r : mm_R} (e : jd_273_l33 x1 x2 x3 x4 x5 x6 x7 x8 m = some x) (K : (∀ lv : jL, lv 0 = some (jR (some 76)) → lv 1 = some (jI x1) → lv 2 = some (jI x2) → lv 3 = some (jI x3) → lv 4 = some (jI x4) → lv 5 = some (jI x5) → lv 6 = some (jI x6) → lv 7 = some (jI x7) → ey (mm_xt L xs) 1 273 80 lv [] (jhm b x) r)) : ∀ lv : jL, lv 0 = some (jR (some 76)) → lv 1 = some (jI x1) → lv 2 = some (jI x2) → lv 3 = some (jI x3) → lv 4 = some (jI x4) → lv 5 = some (jI x5) → lv 6 = some (jI x6) → lv 7 = some (jI x7) → lv 8 = some (jI x8) → ey (mm_xt L xs) 1 273 33 lv [] (jhm b m) r := by
  unfold jd_273_l33 at e
  exact jlp_ok2 (P := fun s => ∀ lv : jL, lv 0 = some (jR (some 76)) → lv 1 = some (jI x1) → lv 2 = some (jI x2) → lv 3 = some (jI x3) → lv 4 = some (jI x4) → lv 5 = some (jI x5) → lv 6 = some (jI x6) → lv 7 = some (jI x7) → lv 8 = some (jI s.1) → ey (mm_xt L xs) 1 273 33 lv [] (jhm b s.2) r) (Q := fun x => (∀ lv : jL, lv 0 = some (jR (some 76)) → lv 1 = some (jI x1) → lv 2 = some (jI x2) → lv 3 = some (jI x3) → lv 4 = some (jI x4) → lv 5 = some (jI x5) → lv 6 = some (jI x6) → lv 7 = some (jI x7) → ey (mm_xt L xs) 1 273 80 lv [] (jhm b x) r)) (fun s q hq hk => jk_273_s33 hb h6 hq hk) jfu _ x e K
set_option maxRecDepth 100000 in
theorem jk_273_s103 {L : Nat} {xs : Nat → Int32} {b : jH} (hb : 152 ≤ b.1) (h6 : b.1 ≤ 1000000) {x1 : Int} {x2 : Int} {x3 : Int} {x4 : Int} {x5 : Int} {x6 : Int} {x7 : Int} {x8 : Int} {m : jM} {o : ((Int × jM) ⊕ jM)} {r : mm_R} (e : jd_273_s103 x1 x2 x3 x4 x5 x6 x7 x8 m = some o) (K : jsm (fun s => (∀ lv : jL, lv 0 = some (jR (some 76)) → lv 1 = some (jI x1) → lv 2 = some (jI x2) → lv 3 = some (jI x3) → lv 4 = some (jI x4) → lv 5 = some (jI x5) → lv 6 = some (jI x6) → lv 7 = some (jI x7) → lv 8 = some (jI s.1) → ey (mm_xt L xs) 1 273 103 lv [] (jhm b s.2) r)) (fun x => (∀ lv : jL, lv 0 = some (jR (some 76)) → lv 1 = some (jI x1) → lv 2 = some (jI x2) → lv 3 = some (jI x3) → lv 4 = some (jI x4) → lv 5 = some (jI x5) → lv 6 = some (jI x6) → lv 7 = some (jI x7) → ey (mm_xt L xs) 1 273 150 lv [] (jhm b x) r)) o) : ∀ lv : jL, lv 0 = some (jR (some 76)) → lv 1 = some (jI x1) → lv 2 = some (jI x2) → lv 3 = some (jI x3) → lv 4 = some (jI x4) → lv 5 = some (jI x5) → lv 6 = some (jI x6) → lv 7 = some (jI x7) → lv 8 = some (jI x8) → ey (mm_xt L xs) 1 273 103 lv [] (jhm b m) r := by
  intro lv f0 f1 f2 f3 f4 f5 f6 f7 f8
  unfold jd_273_s103 at e
  refine ey_iload (cd_273 rfl) f8 ?_
  refine ey_iload (cd_273 rfl) f6 ?_
  by_cases q16 : (jw x6) ≤ (jw x8)
  · rw [if_pos q16] at e
    refine ey_cge (cd_273 rfl) rfl rfl rfl q16 ?_
    cases e
    exact K lv f0 f1 f2 f3 f4 f5 f6 f7
  · rw [if_neg q16] at e
    refine ey_nge (cd_273 rfl) rfl rfl rfl q16 ?_
    refine ey_aload_n (cd_273 rfl) f0 ?_
    refine ey_getf_r (cd_273 rfl) mt_273 rfl rfl rfl (jhm_gr (q := 118) hb rfl) ?_
    refine ey_iload (cd_273 rfl) f4 ?_
    have K21 : ∀ lv : jL, lv 0 = some (jR (some 76)) → lv 1 = some (jI x1) → lv 2 = some (jI x2) → lv 3 = some (jI x3) → lv 4 = some (jI x4) → lv 5 = some (jI x5) → lv 6 = some (jI x6) → lv 7 = some (jI x7) → lv 8 = some (jI x8) → ey (mm_xt L xs) 1 273 136 lv [jI (if (jw x4) = 0 then ((x1 * x8) + x7) else ((x1 * x7) + x8)), jR (some 118)] (jhm b m) r := by
      intro lv g0 g1 g2 g3 g4 g5 g6 g7 g8
      refine ey_aload_n (cd_273 rfl) g0 ?_
      refine ey_getf_r (cd_273 rfl) mt_273 rfl rfl rfl (jhm_gr (q := 119) hb rfl) ?_
      refine ey_iload (cd_273 rfl) g8 ?_
      obtain ⟨v17, e18, e⟩ := jbind e
      refine ey_iald (cd_273 rfl) (jhm_ai hb h6 (by decide) rfl e18) ?_
      obtain ⟨m19, e20, e⟩ := jbind e
      refine ey_iast (cd_273 rfl) (jhm_ta hb (by decide) rfl e20) ?_
      refine ey_iinc (cd_273 rfl) mt_273 rfl g8 ?_
      refine ey_goto (cd_273 rfl) rfl ?_
      cases e
      exact K (jup lv 8 (jI (x8 + 1))) g0 g1 g2 g3 g4 g5 g6 (jup_pi (lv := lv) (j := 7) (v := jI (x8 + 1)) (z := x7) g7) rfl
    by_cases q22 : (jw x4) = 0
    · refine ey_zeq (cd_273 rfl) rfl rfl q22 ?_
      refine ey_iload_n (cd_273 rfl) f1 ?_
      refine ey_iload (cd_273 rfl) f8 ?_
      refine ey_imul (cd_273 rfl) ?_
      refine ey_iload (cd_273 rfl) f7 ?_
      refine ey_iadd (cd_273 rfl) ?_
      exact ey_rs (s0 := [jI ((x1 * x8) + x7), jR (some 118)]) (s1 := [jI (if (jw x4) = 0 then ((x1 * x8) + x7) else ((x1 * x7) + x8)), jR (some 118)]) (by rw [show ((if (jw x4) = 0 then ((x1 * x8) + x7) else ((x1 * x7) + x8)) : Int) = ((x1 * x8) + x7) from (if_pos q22)]) (K21 lv f0 f1 f2 f3 f4 f5 f6 f7 f8)
    · refine ey_yeq (cd_273 rfl) rfl rfl q22 ?_
      refine ey_iload_n (cd_273 rfl) f1 ?_
      refine ey_iload (cd_273 rfl) f7 ?_
      refine ey_imul (cd_273 rfl) ?_
      refine ey_iload (cd_273 rfl) f8 ?_
      refine ey_iadd (cd_273 rfl) ?_
      refine ey_goto (cd_273 rfl) rfl ?_
      exact ey_rs (s0 := [jI ((x1 * x7) + x8), jR (some 118)]) (s1 := [jI (if (jw x4) = 0 then ((x1 * x8) + x7) else ((x1 * x7) + x8)), jR (some 118)]) (by rw [show ((if (jw x4) = 0 then ((x1 * x8) + x7) else ((x1 * x7) + x8)) : Int) = ((x1 * x7) + x8) from (if_neg q22)]) (K21 lv f0 f1 f2 f3 f4 f5 f6 f7 f8)
theorem jk_273_l103 {L : Nat} {xs : Nat → Int32} {b : jH} (hb : 152 ≤ b.1) (h6 : b.1 ≤ 1000000) {x1 : Int} {x2 : Int} {x3 : Int} {x4 : Int} {x5 : Int} {x6 : Int} {x7 : Int} {x8 : Int} {m : jM} {x : jM} {r : mm_R} (e : jd_273_l103 x1 x2 x3 x4 x5 x6 x7 x8 m = some x) (K : (∀ lv : jL, lv 0 = some (jR (some 76)) → lv 1 = some (jI x1) → lv 2 = some (jI x2) → lv 3 = some (jI x3) → lv 4 = some (jI x4) → lv 5 = some (jI x5) → lv 6 = some (jI x6) → lv 7 = some (jI x7) → ey (mm_xt L xs) 1 273 150 lv [] (jhm b x) r)) : ∀ lv : jL, lv 0 = some (jR (some 76)) → lv 1 = some (jI x1) → lv 2 = some (jI x2) → lv 3 = some (jI x3) → lv 4 = some (jI x4) → lv 5 = some (jI x5) → lv 6 = some (jI x6) → lv 7 = some (jI x7) → lv 8 = some (jI x8) → ey (mm_xt L xs) 1 273 103 lv [] (jhm b m) r := by
  unfold jd_273_l103 at e
  exact jlp_ok2 (P := fun s => ∀ lv : jL, lv 0 = some (jR (some 76)) → lv 1 = some (jI x1) → lv 2 = some (jI x2) → lv 3 = some (jI x3) → lv 4 = some (jI x4) → lv 5 = some (jI x5) → lv 6 = some (jI x6) → lv 7 = some (jI x7) → lv 8 = some (jI s.1) → ey (mm_xt L xs) 1 273 103 lv [] (jhm b s.2) r) (Q := fun x => (∀ lv : jL, lv 0 = some (jR (some 76)) → lv 1 = some (jI x1) → lv 2 = some (jI x2) → lv 3 = some (jI x3) → lv 4 = some (jI x4) → lv 5 = some (jI x5) → lv 6 = some (jI x6) → lv 7 = some (jI x7) → ey (mm_xt L xs) 1 273 150 lv [] (jhm b x) r)) (fun s q hq hk => jk_273_s103 hb h6 hq hk) jfu _ x e K
set_option maxRecDepth 100000 in
theorem jk_273_b100 {L : Nat} {xs : Nat → Int32} {b : jH} (hb : 152 ≤ b.1) (h6 : b.1 ≤ 1000000) {x1 : Int} {x2 : Int} {x3 : Int} {x4 : Int} {x5 : Int} {x6 : Int} {x7 : Int} {m : jM} {o : ((Int × jM) ⊕ jM)} {r : mm_R} (e : jd_273_b100 x1 x2 x3 x4 x5 x6 x7 m = some o) (K : jsm (fun s => (∀ lv : jL, lv 0 = some (jR (some 76)) → lv 1 = some (jI x1) → lv 2 = some (jI x2) → lv 3 = some (jI x3) → lv 4 = some (jI x4) → lv 5 = some (jI x5) → lv 6 = some (jI x6) → lv 7 = some (jI s.1) → ey (mm_xt L xs) 1 273 15 lv [] (jhm b s.2) r)) (fun x => (∀ lv : jL, ey (mm_xt L xs) 1 273 156 lv [] (jhm b x) r)) o) : ∀ lv : jL, lv 0 = some (jR (some 76)) → lv 1 = some (jI x1) → lv 2 = some (jI x2) → lv 3 = some (jI x3) → lv 4 = some (jI x4) → lv 5 = some (jI x5) → lv 6 = some (jI x6) → lv 7 = some (jI x7) → ey (mm_xt L xs) 1 273 100 lv [] (jhm b m) r := by
  intro lv f0 f1 f2 f3 f4 f5 f6 f7
  unfold jd_273_b100 at e
  refine ey_iconst (cd_273 rfl) ?_
  refine ey_istore (cd_273 rfl) mt_273 rfl ?_
  obtain ⟨x23, e24, e⟩ := jbind e
  refine jk_273_l103 hb h6 e24 ?_ (jup lv 8 (jI 0)) f0 f1 f2 f3 f4 f5 f6 (jup_pi (lv := lv) (j := 7) (v := jI 0) (z := x7) f7) rfl
  intro lv g0 g1 g2 g3 g4 g5 g6 g7
  refine ey_iinc (cd_273 rfl) mt_273 rfl g7 ?_
  refine ey_goto (cd_273 rfl) rfl ?_
  cases e
  exact K (jup lv 7 (jI (x7 + 1))) g0 g1 g2 g3 g4 g5 (jup_pi (lv := lv) (j := 6) (v := jI (x7 + 1)) (z := x6) g6) rfl
set_option maxRecDepth 100000 in
theorem jk_273_s15 {L : Nat} {xs : Nat → Int32} {b : jH} (hb : 152 ≤ b.1) (h6 : b.1 ≤ 1000000) {x1 : Int} {x2 : Int} {x3 : Int} {x4 : Int} {x5 : Int} {x6 : Int} {x7 : Int} {m : jM} {o : ((Int × jM) ⊕ jM)} {r : mm_R} (e : jd_273_s15 x1 x2 x3 x4 x5 x6 x7 m = some o) (K : jsm (fun s => (∀ lv : jL, lv 0 = some (jR (some 76)) → lv 1 = some (jI x1) → lv 2 = some (jI x2) → lv 3 = some (jI x3) → lv 4 = some (jI x4) → lv 5 = some (jI x5) → lv 6 = some (jI x6) → lv 7 = some (jI s.1) → ey (mm_xt L xs) 1 273 15 lv [] (jhm b s.2) r)) (fun x => (∀ lv : jL, ey (mm_xt L xs) 1 273 156 lv [] (jhm b x) r)) o) : ∀ lv : jL, lv 0 = some (jR (some 76)) → lv 1 = some (jI x1) → lv 2 = some (jI x2) → lv 3 = some (jI x3) → lv 4 = some (jI x4) → lv 5 = some (jI x5) → lv 6 = some (jI x6) → lv 7 = some (jI x7) → ey (mm_xt L xs) 1 273 15 lv [] (jhm b m) r := by
  intro lv f0 f1 f2 f3 f4 f5 f6 f7
  unfold jd_273_s15 at e
  refine ey_iload (cd_273 rfl) f7 ?_
  refine ey_iload (cd_273 rfl) f4 ?_
  have K27 : ∀ lv : jL, lv 0 = some (jR (some 76)) → lv 1 = some (jI x1) → lv 2 = some (jI x2) → lv 3 = some (jI x3) → lv 4 = some (jI x4) → lv 5 = some (jI x5) → lv 6 = some (jI x6) → lv 7 = some (jI x7) → ey (mm_xt L xs) 1 273 27 lv [jI (if (jw x4) = 0 then x2 else x3), jI x7] (jhm b m) r := by
    intro lv g0 g1 g2 g3 g4 g5 g6 g7
    by_cases q3 : (jw (if (jw x4) = 0 then x2 else x3)) ≤ (jw x7)
    · rw [if_pos q3] at e
      refine ey_cge (cd_273 rfl) rfl rfl rfl q3 ?_
      cases e
      exact K lv 
    · rw [if_neg q3] at e
      refine ey_nge (cd_273 rfl) rfl rfl rfl q3 ?_
      refine ey_iconst (cd_273 rfl) ?_
      refine ey_istore (cd_273 rfl) mt_273 rfl ?_
      obtain ⟨x11, e12, e⟩ := jbind e
      refine jk_273_l33 hb h6 e12 ?_ (jup lv 8 (jI 0)) g0 g1 g2 g3 g4 g5 g6 (jup_pi (lv := lv) (j := 7) (v := jI 0) (z := x7) g7) rfl
      intro lv g0 g1 g2 g3 g4 g5 g6 g7
      refine ey_iload (cd_273 rfl) g5 ?_
      by_cases q13 : (jw x5) = 0
      · rw [if_pos q13] at e
        refine ey_zeq (cd_273 rfl) rfl rfl q13 ?_
        refine ey_aload_n (cd_273 rfl) g0 ?_
        refine ey_iload (cd_273 rfl) g6 ?_
        obtain ⟨m14, e15, e⟩ := jbind e
        refine ey_cv (s0 := [jI x6, jR (some 76)]) (s1 := []) (st' := []) (cd_273 rfl) mt_273 mt_272 rfl rfl rfl (jhm_is hb) rfl (jsml_s rfl) rfl (ok_272 hb h6 e15) ?_
        exact jk_273_b100 hb h6 e K lv g0 g1 g2 g3 g4 g5 g6 g7
      · rw [if_neg q13] at e
        refine ey_yeq (cd_273 rfl) rfl rfl q13 ?_
        refine ey_aload_n (cd_273 rfl) g0 ?_
        refine ey_iload (cd_273 rfl) g6 ?_
        obtain ⟨m25, e26, e⟩ := jbind e
        refine ey_cv (s0 := [jI x6, jR (some 76)]) (s1 := []) (st' := []) (cd_273 rfl) mt_273 mt_271 rfl rfl rfl (jhm_is hb) rfl (jsml_s rfl) rfl (ok_271 hb h6 e26) ?_
        refine ey_goto (cd_273 rfl) rfl ?_
        exact jk_273_b100 hb h6 e K lv g0 g1 g2 g3 g4 g5 g6 g7
  by_cases q28 : (jw x4) = 0
  · refine ey_zeq (cd_273 rfl) rfl rfl q28 ?_
    refine ey_iload_n (cd_273 rfl) f2 ?_
    exact ey_rs (s0 := [jI x2, jI x7]) (s1 := [jI (if (jw x4) = 0 then x2 else x3), jI x7]) (by rw [show ((if (jw x4) = 0 then x2 else x3) : Int) = x2 from (if_pos q28)]) (K27 lv f0 f1 f2 f3 f4 f5 f6 f7)
  · refine ey_yeq (cd_273 rfl) rfl rfl q28 ?_
    refine ey_iload_n (cd_273 rfl) f3 ?_
    refine ey_goto (cd_273 rfl) rfl ?_
    exact ey_rs (s0 := [jI x3, jI x7]) (s1 := [jI (if (jw x4) = 0 then x2 else x3), jI x7]) (by rw [show ((if (jw x4) = 0 then x2 else x3) : Int) = x3 from (if_neg q28)]) (K27 lv f0 f1 f2 f3 f4 f5 f6 f7)
theorem jk_273_l15 {L : Nat} {xs : Nat → Int32} {b : jH} (hb : 152 ≤ b.1) (h6 : b.1 ≤ 1000000) {x1 : Int} {x2 : Int} {x3 : Int} {x4 : Int} {x5 : Int} {x6 : Int} {x7 : Int} {m : jM} {x : jM} {r : mm_R} (e : jd_273_l15 x1 x2 x3 x4 x5 x6 x7 m = some x) (K : (∀ lv : jL, ey (mm_xt L xs) 1 273 156 lv [] (jhm b x) r)) : ∀ lv : jL, lv 0 = some (jR (some 76)) → lv 1 = some (jI x1) → lv 2 = some (jI x2) → lv 3 = some (jI x3) → lv 4 = some (jI x4) → lv 5 = some (jI x5) → lv 6 = some (jI x6) → lv 7 = some (jI x7) → ey (mm_xt L xs) 1 273 15 lv [] (jhm b m) r := by
  unfold jd_273_l15 at e
  exact jlp_ok2 (P := fun s => ∀ lv : jL, lv 0 = some (jR (some 76)) → lv 1 = some (jI x1) → lv 2 = some (jI x2) → lv 3 = some (jI x3) → lv 4 = some (jI x4) → lv 5 = some (jI x5) → lv 6 = some (jI x6) → lv 7 = some (jI s.1) → ey (mm_xt L xs) 1 273 15 lv [] (jhm b s.2) r) (Q := fun x => (∀ lv : jL, ey (mm_xt L xs) 1 273 156 lv [] (jhm b x) r)) (fun s q hq hk => jk_273_s15 hb h6 hq hk) jfu _ x e K
set_option maxRecDepth 100000 in
theorem ok_273 {L : Nat} {xs : Nat → Int32} {b : jH} (hb : 152 ≤ b.1) (h6 : b.1 ≤ 1000000) {p0 : Int} {p1 : Int} {p2 : Int} {p3 : Int} {p4 : Int} {m : jM} {o : jM} (e : jd_273 p0 p1 p2 p3 p4 m = some o) : mm_Runs (mm_xt L xs) 2 273 ([jR (some 76), jI p0, jI p1, jI p2, jI p3, jI p4].map jcv) (jaH (jhm b m)) (.inl (none, jaH (jhm b o))) := by
  refine ey_run0 _ mt_273 (jsl_s rfl) ?_
  unfold jd_273 at e
  refine ey_iload (cd_273 rfl) rfl ?_
  have K31 : ∀ lv : jL, lv 0 = some (jR (some 76)) → lv 1 = some (jI p0) → lv 2 = some (jI p1) → lv 3 = some (jI p2) → lv 4 = some (jI p3) → lv 5 = some (jI p4) → ey (mm_xt L xs) 1 273 10 lv [jI (if (jw p3) = 0 then p2 else p1)] (jhm b m) (.inl (none, jaH (jhm b o))) := by
    intro lv g0 g1 g2 g3 g4 g5
    obtain ⟨z1, e2, e⟩ := jbind e
    refine ey_rs (s0 := [jI (if (jw p3) = 0 then p2 else p1)]) (s1 := [jI z1]) (by rw [show (if (jw p3) = 0 then p2 else p1) = z1 from Option.some.inj e2]) ?_
    refine ey_istore (cd_273 rfl) mt_273 rfl ?_
    refine ey_iconst (cd_273 rfl) ?_
    refine ey_istore (cd_273 rfl) mt_273 rfl ?_
    obtain ⟨x29, e30, e⟩ := jbind e
    refine jk_273_l15 hb h6 e30 ?_ (jup (jup lv 6 (jI z1)) 7 (jI 0)) g0 g1 g2 g3 g4 (jup_o rfl (jup_pi (lv := lv) (j := 5) (v := jI z1) (z := p4) g5)) (jup_pi (lv := (jup lv 6 (jI z1))) (j := 6) (v := jI 0) (z := z1) rfl) rfl
    intro lv 
    cases e
    exact ey_retv (cd_273 rfl) mt_273 rfl
  by_cases q32 : (jw p3) = 0
  · refine ey_zeq (cd_273 rfl) rfl rfl q32 ?_
    refine ey_iload_n (cd_273 rfl) rfl ?_
    exact ey_rs (s0 := [jI p2]) (s1 := [jI (if (jw p3) = 0 then p2 else p1)]) (by rw [show ((if (jw p3) = 0 then p2 else p1) : Int) = p2 from (if_pos q32)]) (K31 (jlf (jla 0 [jR (some 76), jI p0, jI p1, jI p2, jI p3, jI p4])) rfl rfl rfl rfl rfl rfl)
  · refine ey_yeq (cd_273 rfl) rfl rfl q32 ?_
    refine ey_iload_n (cd_273 rfl) rfl ?_
    refine ey_goto (cd_273 rfl) rfl ?_
    exact ey_rs (s0 := [jI p1]) (s1 := [jI (if (jw p3) = 0 then p2 else p1)]) (by rw [show ((if (jw p3) = 0 then p2 else p1) : Int) = p1 from (if_neg q32)]) (K31 (jlf (jla 0 [jR (some 76), jI p0, jI p1, jI p2, jI p3, jI p4])) rfl rfl rfl rfl rfl rfl)
theorem cd_274 {pc : Nat} {i : Instr × Nat} (h : mm_lk mm_c274 pc = some i) : mm_cd 274 pc = some i := h
theorem mt_274 : mm_MT 274 = (12, 8, none, 2, 0, []) := rfl
set_option maxRecDepth 100000 in
theorem jk_274_s79 {L : Nat} {xs : Nat → Int32} {b : jH} (hb : 152 ≤ b.1) (h6 : b.1 ≤ 1000000) {x1 : Int} {x2 : Int} {x3 : Int} {x4 : Int} {x5 : Int} {x6 : Int} {x7 : Int} {m : jM} {o : ((Int × jM) ⊕ jM)} {r : mm_R} (e : jd_274_s79 x1 x2 x3 x4 x5 x6 x7 m = some o) (K : jsm (fun s => (∀ lv : jL, lv 0 = some (jR (some 76)) → lv 1 = some (jI x1) → lv 2 = some (jI x2) → lv 3 = some (jI x3) → lv 4 = some (jI x4) → lv 5 = some (jI x5) → lv 6 = some (jI x6) → lv 7 = some (jI s.1) → ey (mm_xt L xs) 3 274 79 lv [] (jhm b s.2) r)) (fun x => (∀ lv : jL, lv 0 = some (jR (some 76)) → lv 1 = some (jI x1) → lv 2 = some (jI x2) → lv 3 = some (jI x3) → lv 4 = some (jI x4) → lv 5 = some (jI x5) → lv 6 = some (jI x6) → ey (mm_xt L xs) 3 274 103 lv [] (jhm b x) r)) o) : ∀ lv : jL, lv 0 = some (jR (some 76)) → lv 1 = some (jI x1) → lv 2 = some (jI x2) → lv 3 = some (jI x3) → lv 4 = some (jI x4) → lv 5 = some (jI x5) → lv 6 = some (jI x6) → lv 7 = some (jI x7) → ey (mm_xt L xs) 3 274 79 lv [] (jhm b m) r := by
  intro lv f0 f1 f2 f3 f4 f5 f6 f7
  unfold jd_274_s79 at e
  refine ey_iload (cd_274 rfl) f7 ?_
  refine ey_iload (cd_274 rfl) f6 ?_
  by_cases q8 : (jw x6) ≤ (jw x7)
  · rw [if_pos q8] at e
    refine ey_cge (cd_274 rfl) rfl rfl rfl q8 ?_
    cases e
    exact K lv f0 f1 f2 f3 f4 f5 f6
  · rw [if_neg q8] at e
    refine ey_nge (cd_274 rfl) rfl rfl rfl q8 ?_
    refine ey_aload_n (cd_274 rfl) f0 ?_
    refine ey_getf_r (cd_274 rfl) mt_274 rfl rfl rfl (jhm_gr (q := 118) hb rfl) ?_
    refine ey_iload (cd_274 rfl) f5 ?_
    refine ey_iload (cd_274 rfl) f7 ?_
    refine ey_iadd (cd_274 rfl) ?_
    refine ey_iconst (cd_274 rfl) ?_
    obtain ⟨m9, e10, e⟩ := jbind e
    refine ey_iast (cd_274 rfl) (jhm_ta hb (by decide) rfl e10) ?_
    refine ey_iinc (cd_274 rfl) mt_274 rfl f7 ?_
    refine ey_goto (cd_274 rfl) rfl ?_
    cases e
    exact K (jup lv 7 (jI (x7 + 1))) f0 f1 f2 f3 f4 f5 (jup_pi (lv := lv) (j := 6) (v := jI (x7 + 1)) (z := x6) f6) rfl
theorem jk_274_l79 {L : Nat} {xs : Nat → Int32} {b : jH} (hb : 152 ≤ b.1) (h6 : b.1 ≤ 1000000) {x1 : Int} {x2 : Int} {x3 : Int} {x4 : Int} {x5 : Int} {x6 : Int} {x7 : Int} {m : jM} {x : jM} {r : mm_R} (e : jd_274_l79 x1 x2 x3 x4 x5 x6 x7 m = some x) (K : (∀ lv : jL, lv 0 = some (jR (some 76)) → lv 1 = some (jI x1) → lv 2 = some (jI x2) → lv 3 = some (jI x3) → lv 4 = some (jI x4) → lv 5 = some (jI x5) → lv 6 = some (jI x6) → ey (mm_xt L xs) 3 274 103 lv [] (jhm b x) r)) : ∀ lv : jL, lv 0 = some (jR (some 76)) → lv 1 = some (jI x1) → lv 2 = some (jI x2) → lv 3 = some (jI x3) → lv 4 = some (jI x4) → lv 5 = some (jI x5) → lv 6 = some (jI x6) → lv 7 = some (jI x7) → ey (mm_xt L xs) 3 274 79 lv [] (jhm b m) r := by
  unfold jd_274_l79 at e
  exact jlp_ok2 (P := fun s => ∀ lv : jL, lv 0 = some (jR (some 76)) → lv 1 = some (jI x1) → lv 2 = some (jI x2) → lv 3 = some (jI x3) → lv 4 = some (jI x4) → lv 5 = some (jI x5) → lv 6 = some (jI x6) → lv 7 = some (jI s.1) → ey (mm_xt L xs) 3 274 79 lv [] (jhm b s.2) r) (Q := fun x => (∀ lv : jL, lv 0 = some (jR (some 76)) → lv 1 = some (jI x1) → lv 2 = some (jI x2) → lv 3 = some (jI x3) → lv 4 = some (jI x4) → lv 5 = some (jI x5) → lv 6 = some (jI x6) → ey (mm_xt L xs) 3 274 103 lv [] (jhm b x) r)) (fun s q hq hk => jk_274_s79 hb h6 hq hk) jfu _ x e K
set_option maxRecDepth 100000 in
theorem jk_274_b161 {L : Nat} {xs : Nat → Int32} {b : jH} (hb : 152 ≤ b.1) (h6 : b.1 ≤ 1000000) {x1 : Int} {x2 : Int} {x3 : Int} {x4 : Int} {x5 : Int} {x7 : Int} {m : jM} {o : ((Int × jM) ⊕ (jM ⊕ (jM ⊕ jM)))} {r : mm_R} (e : jd_274_b161 x1 x2 x3 x4 x5 x7 m = some o) (K : jsm (fun s => (∀ lv : jL, lv 0 = some (jR (some 76)) → lv 1 = some (jI x1) → lv 2 = some (jI x2) → lv 3 = some (jI x3) → lv 4 = some (jI x4) → lv 5 = some (jI s.1) → ey (mm_xt L xs) 3 274 22 lv [] (jhm b s.2) r)) (fun x => (jsm (fun y => (∀ lv : jL, ey (mm_xt L xs) 3 274 75 lv [] (jhm b y) r)) (fun z => (jsm (fun y => (∀ lv : jL, ey (mm_xt L xs) 3 274 168 lv [] (jhm b y) r)) (fun z => (∀ lv : jL, lv 0 = some (jR (some 76)) → lv 1 = some (jI x1) → lv 2 = some (jI x2) → lv 3 = some (jI x3) → lv 4 = some (jI x4) → ey (mm_xt L xs) 3 274 184 lv [] (jhm b z) r)) z)) x)) o) : ∀ lv : jL, lv 0 = some (jR (some 76)) → lv 1 = some (jI x1) → lv 2 = some (jI x2) → lv 3 = some (jI x3) → lv 4 = some (jI x4) → lv 5 = some (jI x5) → lv 7 = some (jI x7) → ey (mm_xt L xs) 3 274 161 lv [] (jhm b m) r := by
  intro lv f0 f1 f2 f3 f4 f5 f7
  unfold jd_274_b161 at e
  refine ey_aload_n (cd_274 rfl) f0 ?_
  refine ey_getf_i (z := (m 76 52)) (cd_274 rfl) mt_274 rfl rfl rfl (jhm_gi hb 52) ?_
  by_cases q20 : (jw (m 76 52)) ≤ 0
  · rw [if_pos q20] at e
    refine ey_zle (cd_274 rfl) rfl rfl q20 ?_
    refine ey_aload_n (cd_274 rfl) f0 ?_
    refine ey_getf_r (cd_274 rfl) mt_274 rfl rfl rfl (jhm_gr (q := 118) hb rfl) ?_
    refine ey_iload (cd_274 rfl) f5 ?_
    refine ey_iload (cd_274 rfl) f7 ?_
    obtain ⟨m21, e22, e⟩ := jbind e
    refine ey_iast (cd_274 rfl) (jhm_ta hb (by decide) rfl e22) ?_
    refine ey_iinc (cd_274 rfl) mt_274 rfl f5 ?_
    refine ey_goto (cd_274 rfl) rfl ?_
    cases e
    exact K (jup lv 5 (jI (x5 + 1))) f0 f1 f2 f3 (jup_pi (lv := lv) (j := 4) (v := jI (x5 + 1)) (z := x4) f4) rfl
  · rw [if_neg q20] at e
    refine ey_yle (cd_274 rfl) rfl rfl q20 ?_
    cases e
    exact K lv 
set_option maxRecDepth 100000 in
theorem jk_274_b156 {L : Nat} {xs : Nat → Int32} {b : jH} (hb : 152 ≤ b.1) (h6 : b.1 ≤ 1000000) {x1 : Int} {x2 : Int} {x3 : Int} {x4 : Int} {x5 : Int} {x7 : Int} {m : jM} {o : ((Int × jM) ⊕ (jM ⊕ (jM ⊕ jM)))} {r : mm_R} (e : jd_274_b156 x1 x2 x3 x4 x5 x7 m = some o) (K : jsm (fun s => (∀ lv : jL, lv 0 = some (jR (some 76)) → lv 1 = some (jI x1) → lv 2 = some (jI x2) → lv 3 = some (jI x3) → lv 4 = some (jI x4) → lv 5 = some (jI s.1) → ey (mm_xt L xs) 3 274 22 lv [] (jhm b s.2) r)) (fun x => (jsm (fun y => (∀ lv : jL, ey (mm_xt L xs) 3 274 75 lv [] (jhm b y) r)) (fun z => (jsm (fun y => (∀ lv : jL, ey (mm_xt L xs) 3 274 168 lv [] (jhm b y) r)) (fun z => (∀ lv : jL, lv 0 = some (jR (some 76)) → lv 1 = some (jI x1) → lv 2 = some (jI x2) → lv 3 = some (jI x3) → lv 4 = some (jI x4) → ey (mm_xt L xs) 3 274 184 lv [] (jhm b z) r)) z)) x)) o) : ∀ lv : jL, lv 0 = some (jR (some 76)) → lv 1 = some (jI x1) → lv 2 = some (jI x2) → lv 3 = some (jI x3) → lv 4 = some (jI x4) → lv 5 = some (jI x5) → lv 7 = some (jI x7) → ey (mm_xt L xs) 3 274 156 lv [] (jhm b m) r := by
  intro lv f0 f1 f2 f3 f4 f5 f7
  unfold jd_274_b156 at e
  refine ey_aload_n (cd_274 rfl) f0 ?_
  refine ey_iconst (cd_274 rfl) ?_
  obtain ⟨m18, e19, e⟩ := jbind e
  refine ey_cv (s0 := [jI 5, jR (some 76)]) (s1 := []) (st' := []) (cd_274 rfl) mt_274 mt_231 rfl rfl rfl (jhm_is hb) rfl (jsml_s rfl) rfl (mm_Runs.up (d := 1) (by decide) (ok_231 hb h6 e19)) ?_
  exact jk_274_b161 hb h6 e K lv f0 f1 f2 f3 f4 f5 f7
set_option maxRecDepth 100000 in
theorem jk_274_b68 {L : Nat} {xs : Nat → Int32} {b : jH} (hb : 152 ≤ b.1) (h6 : b.1 ≤ 1000000) {x1 : Int} {x2 : Int} {x3 : Int} {x4 : Int} {x5 : Int} {x6 : Int} {m : jM} {o : ((Int × jM) ⊕ (jM ⊕ (jM ⊕ jM)))} {r : mm_R} (e : jd_274_b68 x1 x2 x3 x4 x5 x6 m = some o) (K : jsm (fun s => (∀ lv : jL, lv 0 = some (jR (some 76)) → lv 1 = some (jI x1) → lv 2 = some (jI x2) → lv 3 = some (jI x3) → lv 4 = some (jI x4) → lv 5 = some (jI s.1) → ey (mm_xt L xs) 3 274 22 lv [] (jhm b s.2) r)) (fun x => (jsm (fun y => (∀ lv : jL, ey (mm_xt L xs) 3 274 75 lv [] (jhm b y) r)) (fun z => (jsm (fun y => (∀ lv : jL, ey (mm_xt L xs) 3 274 168 lv [] (jhm b y) r)) (fun z => (∀ lv : jL, lv 0 = some (jR (some 76)) → lv 1 = some (jI x1) → lv 2 = some (jI x2) → lv 3 = some (jI x3) → lv 4 = some (jI x4) → ey (mm_xt L xs) 3 274 184 lv [] (jhm b z) r)) z)) x)) o) : ∀ lv : jL, lv 0 = some (jR (some 76)) → lv 1 = some (jI x1) → lv 2 = some (jI x2) → lv 3 = some (jI x3) → lv 4 = some (jI x4) → lv 5 = some (jI x5) → lv 6 = some (jI x6) → ey (mm_xt L xs) 3 274 68 lv [] (jhm b m) r := by
  intro lv f0 f1 f2 f3 f4 f5 f6
  unfold jd_274_b68 at e
  refine ey_aload_n (cd_274 rfl) f0 ?_
  refine ey_getf_i (z := (m 76 52)) (cd_274 rfl) mt_274 rfl rfl rfl (jhm_gi hb 52) ?_
  by_cases q7 : (jw (m 76 52)) ≤ 0
  · rw [if_pos q7] at e
    refine ey_zle (cd_274 rfl) rfl rfl q7 ?_
    refine ey_iconst (cd_274 rfl) ?_
    refine ey_istore (cd_274 rfl) mt_274 rfl ?_
    obtain ⟨x11, e12, e⟩ := jbind e
    refine jk_274_l79 hb h6 e12 ?_ (jup lv 7 (jI 0)) f0 f1 f2 f3 f4 f5 (jup_pi (lv := lv) (j := 6) (v := jI 0) (z := x6) f6) rfl
    intro lv g0 g1 g2 g3 g4 g5 g6
    refine ey_iload (cd_274 rfl) g5 ?_
    refine ey_iload (cd_274 rfl) g6 ?_
    refine ey_iadd (cd_274 rfl) ?_
    refine ey_istore (cd_274 rfl) mt_274 rfl ?_
    refine ey_iload (cd_274 rfl) rfl ?_
    refine ey_iload_n (cd_274 rfl) g3 ?_
    refine ey_iload (cd_274 rfl) (jup_pi (lv := lv) (j := 4) (v := jI (x5 + x6)) (z := x4) g4) ?_
    refine ey_imul (cd_274 rfl) ?_
    by_cases q13 : (jw (x5 + x6)) = (jw (x3 * x4))
    · rw [if_pos q13] at e
      refine ey_nne (cd_274 rfl) rfl rfl rfl (fun w => w q13) ?_
      refine ey_goto (cd_274 rfl) rfl ?_
      cases e
      exact K (jup lv 5 (jI (x5 + x6))) g0 g1 g2 g3 (jup_pi (lv := lv) (j := 4) (v := jI (x5 + x6)) (z := x4) g4) rfl
    · rw [if_neg q13] at e
      refine ey_cne (cd_274 rfl) rfl rfl rfl q13 ?_
      refine ey_aload_n (cd_274 rfl) g0 ?_
      obtain ⟨q14, e15, e⟩ := jbind e
      refine ey_cv (s0 := [jR (some 76)]) (s1 := []) (st' := [jI q14.1]) (cd_274 rfl) mt_274 mt_230 rfl rfl rfl (jhm_is hb) rfl (jsml_s rfl) rfl (ok_230 hb h6 e15) ?_
      refine ey_istore (cd_274 rfl) mt_274 rfl ?_
      refine ey_aload_n (cd_274 rfl) g0 ?_
      refine ey_getf_i (z := (q14.2 76 52)) (cd_274 rfl) mt_274 rfl rfl rfl (jhm_gi hb 52) ?_
      by_cases q16 : (jw (q14.2 76 52)) = 0
      · rw [if_pos q16] at e
        refine ey_yne (cd_274 rfl) rfl rfl (fun w => w q16) ?_
        refine ey_iload (cd_274 rfl) rfl ?_
        by_cases q17 : (jw q14.1) = 0
        · rw [if_pos q17] at e
          refine ey_zeq (cd_274 rfl) rfl rfl q17 ?_
          exact jk_274_b156 hb h6 e K (jup (jup lv 5 (jI (x5 + x6))) 7 (jI q14.1)) g0 g1 g2 g3 (jup_o rfl (jup_pi (lv := lv) (j := 4) (v := jI (x5 + x6)) (z := x4) g4)) rfl rfl
        · rw [if_neg q17] at e
          refine ey_yeq (cd_274 rfl) rfl rfl q17 ?_
          refine ey_iload (cd_274 rfl) rfl ?_
          refine ey_sipush (cd_274 rfl) (by decide) ?_
          by_cases q23 : (jw q14.1) < (-4095)
          · rw [if_pos q23] at e
            refine ey_clt (cd_274 rfl) rfl rfl (show jw (-4095) = (-4095) from by decide) q23 ?_
            exact jk_274_b156 hb h6 e K (jup (jup lv 5 (jI (x5 + x6))) 7 (jI q14.1)) g0 g1 g2 g3 (jup_o rfl (jup_pi (lv := lv) (j := 4) (v := jI (x5 + x6)) (z := x4) g4)) rfl rfl
          · rw [if_neg q23] at e
            refine ey_nlt (cd_274 rfl) rfl rfl (show jw (-4095) = (-4095) from by decide) q23 ?_
            refine ey_iload (cd_274 rfl) rfl ?_
            refine ey_sipush (cd_274 rfl) (by decide) ?_
            by_cases q24 : (jw q14.1) ≤ 4095
            · rw [if_pos q24] at e
              refine ey_cle (cd_274 rfl) rfl rfl (show jw 4095 = 4095 from by decide) q24 ?_
              exact jk_274_b161 hb h6 e K (jup (jup lv 5 (jI (x5 + x6))) 7 (jI q14.1)) g0 g1 g2 g3 (jup_o rfl (jup_pi (lv := lv) (j := 4) (v := jI (x5 + x6)) (z := x4) g4)) rfl rfl
            · rw [if_neg q24] at e
              refine ey_nle (cd_274 rfl) rfl rfl (show jw 4095 = 4095 from by decide) q24 ?_
              exact jk_274_b156 hb h6 e K (jup (jup lv 5 (jI (x5 + x6))) 7 (jI q14.1)) g0 g1 g2 g3 (jup_o rfl (jup_pi (lv := lv) (j := 4) (v := jI (x5 + x6)) (z := x4) g4)) rfl rfl
      · rw [if_neg q16] at e
        refine ey_zne (cd_274 rfl) rfl rfl q16 ?_
        exact jk_274_b161 hb h6 e K (jup (jup lv 5 (jI (x5 + x6))) 7 (jI q14.1)) g0 g1 g2 g3 (jup_o rfl (jup_pi (lv := lv) (j := 4) (v := jI (x5 + x6)) (z := x4) g4)) rfl rfl
  · rw [if_neg q7] at e
    refine ey_yle (cd_274 rfl) rfl rfl q7 ?_
    cases e
    exact K lv 
set_option maxRecDepth 100000 in
theorem jk_274_s22 {L : Nat} {xs : Nat → Int32} {b : jH} (hb : 152 ≤ b.1) (h6 : b.1 ≤ 1000000) {x1 : Int} {x2 : Int} {x3 : Int} {x4 : Int} {x5 : Int} {m : jM} {o : ((Int × jM) ⊕ (jM ⊕ (jM ⊕ jM)))} {r : mm_R} (e : jd_274_s22 x1 x2 x3 x4 x5 m = some o) (K : jsm (fun s => (∀ lv : jL, lv 0 = some (jR (some 76)) → lv 1 = some (jI x1) → lv 2 = some (jI x2) → lv 3 = some (jI x3) → lv 4 = some (jI x4) → lv 5 = some (jI s.1) → ey (mm_xt L xs) 3 274 22 lv [] (jhm b s.2) r)) (fun x => (jsm (fun y => (∀ lv : jL, ey (mm_xt L xs) 3 274 75 lv [] (jhm b y) r)) (fun z => (jsm (fun y => (∀ lv : jL, ey (mm_xt L xs) 3 274 168 lv [] (jhm b y) r)) (fun z => (∀ lv : jL, lv 0 = some (jR (some 76)) → lv 1 = some (jI x1) → lv 2 = some (jI x2) → lv 3 = some (jI x3) → lv 4 = some (jI x4) → ey (mm_xt L xs) 3 274 184 lv [] (jhm b z) r)) z)) x)) o) : ∀ lv : jL, lv 0 = some (jR (some 76)) → lv 1 = some (jI x1) → lv 2 = some (jI x2) → lv 3 = some (jI x3) → lv 4 = some (jI x4) → lv 5 = some (jI x5) → ey (mm_xt L xs) 3 274 22 lv [] (jhm b m) r := by
  intro lv f0 f1 f2 f3 f4 f5
  unfold jd_274_s22 at e
  refine ey_iload (cd_274 rfl) f5 ?_
  refine ey_iload_n (cd_274 rfl) f3 ?_
  refine ey_iload (cd_274 rfl) f4 ?_
  refine ey_imul (cd_274 rfl) ?_
  by_cases q1 : (jw (x3 * x4)) ≤ (jw x5)
  · rw [if_pos q1] at e
    refine ey_cge (cd_274 rfl) rfl rfl rfl q1 ?_
    cases e
    exact K lv f0 f1 f2 f3 f4
  · rw [if_neg q1] at e
    refine ey_nge (cd_274 rfl) rfl rfl rfl q1 ?_
    refine ey_aload_n (cd_274 rfl) f0 ?_
    refine ey_getf_i (z := (m 76 52)) (cd_274 rfl) mt_274 rfl rfl rfl (jhm_gi hb 52) ?_
    by_cases q2 : (jw (m 76 52)) = 0
    · rw [if_pos q2] at e
      refine ey_yne (cd_274 rfl) rfl rfl (fun w => w q2) ?_
      refine ey_aload_n (cd_274 rfl) f0 ?_
      obtain ⟨q3, e4, e⟩ := jbind e
      refine ey_cv (s0 := [jR (some 76)]) (s1 := []) (st' := [jI q3.1]) (cd_274 rfl) mt_274 mt_229 rfl rfl rfl (jhm_is hb) rfl (jsml_s rfl) rfl (mm_Runs.up (d := 2) (by decide) (ok_229 hb h6 e4)) ?_
      refine ey_istore (cd_274 rfl) mt_274 rfl ?_
      refine ey_aload_n (cd_274 rfl) f0 ?_
      refine ey_getf_i (z := (q3.2 76 52)) (cd_274 rfl) mt_274 rfl rfl rfl (jhm_gi hb 52) ?_
      by_cases q5 : (jw (q3.2 76 52)) = 0
      · rw [if_pos q5] at e
        refine ey_yne (cd_274 rfl) rfl rfl (fun w => w q5) ?_
        refine ey_iload (cd_274 rfl) (jup_pi (lv := lv) (j := 5) (v := jI q3.1) (z := x5) f5) ?_
        refine ey_iload (cd_274 rfl) rfl ?_
        refine ey_iadd (cd_274 rfl) ?_
        refine ey_iload_n (cd_274 rfl) f3 ?_
        refine ey_iload (cd_274 rfl) f4 ?_
        refine ey_imul (cd_274 rfl) ?_
        by_cases q6 : (jw (x5 + q3.1)) ≤ (jw (x3 * x4))
        · rw [if_pos q6] at e
          refine ey_cle (cd_274 rfl) rfl rfl rfl q6 ?_
          exact jk_274_b68 hb h6 e K (jup lv 6 (jI q3.1)) f0 f1 f2 f3 f4 (jup_pi (lv := lv) (j := 5) (v := jI q3.1) (z := x5) f5) rfl
        · rw [if_neg q6] at e
          refine ey_nle (cd_274 rfl) rfl rfl rfl q6 ?_
          refine ey_aload_n (cd_274 rfl) f0 ?_
          refine ey_iconst (cd_274 rfl) ?_
          obtain ⟨m25, e26, e⟩ := jbind e
          refine ey_cv (s0 := [jI 4, jR (some 76)]) (s1 := []) (st' := []) (cd_274 rfl) mt_274 mt_231 rfl rfl rfl (jhm_is hb) rfl (jsml_s rfl) rfl (mm_Runs.up (d := 1) (by decide) (ok_231 hb h6 e26)) ?_
          exact jk_274_b68 hb h6 e K (jup lv 6 (jI q3.1)) f0 f1 f2 f3 f4 (jup_pi (lv := lv) (j := 5) (v := jI q3.1) (z := x5) f5) rfl
      · rw [if_neg q5] at e
        refine ey_zne (cd_274 rfl) rfl rfl q5 ?_
        exact jk_274_b68 hb h6 e K (jup lv 6 (jI q3.1)) f0 f1 f2 f3 f4 (jup_pi (lv := lv) (j := 5) (v := jI q3.1) (z := x5) f5) rfl
    · rw [if_neg q2] at e
      refine ey_zne (cd_274 rfl) rfl rfl q2 ?_
      cases e
      exact K lv f0 f1 f2 f3 f4
theorem jk_274_l22 {L : Nat} {xs : Nat → Int32} {b : jH} (hb : 152 ≤ b.1) (h6 : b.1 ≤ 1000000) {x1 : Int} {x2 : Int} {x3 : Int} {x4 : Int} {x5 : Int} {m : jM} {x : (jM ⊕ (jM ⊕ jM))} {r : mm_R} (e : jd_274_l22 x1 x2 x3 x4 x5 m = some x) (K : (jsm (fun y => (∀ lv : jL, ey (mm_xt L xs) 3 274 75 lv [] (jhm b y) r)) (fun z => (jsm (fun y => (∀ lv : jL, ey (mm_xt L xs) 3 274 168 lv [] (jhm b y) r)) (fun z => (∀ lv : jL, lv 0 = some (jR (some 76)) → lv 1 = some (jI x1) → lv 2 = some (jI x2) → lv 3 = some (jI x3) → lv 4 = some (jI x4) → ey (mm_xt L xs) 3 274 184 lv [] (jhm b z) r)) z)) x)) : ∀ lv : jL, lv 0 = some (jR (some 76)) → lv 1 = some (jI x1) → lv 2 = some (jI x2) → lv 3 = some (jI x3) → lv 4 = some (jI x4) → lv 5 = some (jI x5) → ey (mm_xt L xs) 3 274 22 lv [] (jhm b m) r := by
  unfold jd_274_l22 at e
  exact jlp_ok2 (P := fun s => ∀ lv : jL, lv 0 = some (jR (some 76)) → lv 1 = some (jI x1) → lv 2 = some (jI x2) → lv 3 = some (jI x3) → lv 4 = some (jI x4) → lv 5 = some (jI s.1) → ey (mm_xt L xs) 3 274 22 lv [] (jhm b s.2) r) (Q := fun x => (jsm (fun y => (∀ lv : jL, ey (mm_xt L xs) 3 274 75 lv [] (jhm b y) r)) (fun z => (jsm (fun y => (∀ lv : jL, ey (mm_xt L xs) 3 274 168 lv [] (jhm b y) r)) (fun z => (∀ lv : jL, lv 0 = some (jR (some 76)) → lv 1 = some (jI x1) → lv 2 = some (jI x2) → lv 3 = some (jI x3) → lv 4 = some (jI x4) → ey (mm_xt L xs) 3 274 184 lv [] (jhm b z) r)) z)) x)) (fun s q hq hk => jk_274_s22 hb h6 hq hk) jfu _ x e K
set_option maxRecDepth 100000 in
theorem jk_274_s235 {L : Nat} {xs : Nat → Int32} {b : jH} (hb : 152 ≤ b.1) (h6 : b.1 ≤ 1000000) {x1 : Int} {x2 : Int} {x3 : Int} {x4 : Int} {x6 : Int} {m : jM} {o : ((Int × jM) ⊕ jM)} {r : mm_R} (e : jd_274_s235 x1 x2 x3 x4 x6 m = some o) (K : jsm (fun s => (∀ lv : jL, lv 0 = some (jR (some 76)) → lv 1 = some (jI x1) → lv 2 = some (jI x2) → lv 3 = some (jI x3) → lv 4 = some (jI x4) → lv 6 = some (jI s.1) → ey (mm_xt L xs) 3 274 235 lv [] (jhm b s.2) r)) (fun x => (∀ lv : jL, ey (mm_xt L xs) 3 274 283 lv [] (jhm b x) r)) o) : ∀ lv : jL, lv 0 = some (jR (some 76)) → lv 1 = some (jI x1) → lv 2 = some (jI x2) → lv 3 = some (jI x3) → lv 4 = some (jI x4) → lv 6 = some (jI x6) → ey (mm_xt L xs) 3 274 235 lv [] (jhm b m) r := by
  intro lv f0 f1 f2 f3 f4 f6
  unfold jd_274_s235 at e
  refine ey_iload (cd_274 rfl) f6 ?_
  refine ey_iload_n (cd_274 rfl) f3 ?_
  refine ey_iload (cd_274 rfl) f4 ?_
  refine ey_imul (cd_274 rfl) ?_
  by_cases q41 : (jw (x3 * x4)) ≤ (jw x6)
  · rw [if_pos q41] at e
    refine ey_cge (cd_274 rfl) rfl rfl rfl q41 ?_
    cases e
    exact K lv 
  · rw [if_neg q41] at e
    refine ey_nge (cd_274 rfl) rfl rfl rfl q41 ?_
    refine ey_aload_n (cd_274 rfl) f0 ?_
    refine ey_getf_r (cd_274 rfl) mt_274 rfl rfl rfl (jhm_gr (q := 109) hb rfl) ?_
    refine ey_sipush (cd_274 rfl) (by decide) ?_
    refine ey_iload_n (cd_274 rfl) f1 ?_
    refine ey_imul (cd_274 rfl) ?_
    refine ey_iload_n (cd_274 rfl) f2 ?_
    refine ey_cs (s0 := [jI x2, jI (864 * x1), jR (some 109)]) (s1 := [jI (864 * x1), jR (some 109)]) (st' := [jI (jd_207 x2), jI (864 * x1), jR (some 109)]) (cd_274 rfl) mt_274 mt_207 rfl (by decide) rfl rfl (jsml_s rfl) rfl (mm_Runs.up (d := 1) (by decide) (ok_207 )) ?_
    refine ey_iadd (cd_274 rfl) ?_
    refine ey_iload (cd_274 rfl) f6 ?_
    refine ey_iadd (cd_274 rfl) ?_
    refine ey_aload_n (cd_274 rfl) f0 ?_
    refine ey_getf_r (cd_274 rfl) mt_274 rfl rfl rfl (jhm_gr (q := 118) hb rfl) ?_
    refine ey_iload (cd_274 rfl) f6 ?_
    obtain ⟨v42, e43, e⟩ := jbind e
    refine ey_iald (cd_274 rfl) (jhm_ai hb h6 (by decide) rfl e43) ?_
    refine ey_i2l (cd_274 rfl) ?_
    refine ey_iconst (cd_274 rfl) ?_
    refine ey_sipush (cd_274 rfl) (by decide) ?_
    refine ey_cs (s0 := [jI 255, jI 0, jJ (jw v42), jI (((864 * x1) + (jd_207 x2)) + x6), jR (some 109)]) (s1 := [jI (((864 * x1) + (jd_207 x2)) + x6), jR (some 109)]) (st' := [jI (jd_205 (jw v42) 0 255), jI (((864 * x1) + (jd_207 x2)) + x6), jR (some 109)]) (cd_274 rfl) mt_274 mt_205 rfl (by decide) rfl rfl (jsml_s rfl) rfl (mm_Runs.up (d := 1) (by decide) (ok_205 )) ?_
    obtain ⟨m44, e45, e⟩ := jbind e
    refine ey_iast (cd_274 rfl) (jhm_ta hb (by decide) rfl e45) ?_
    refine ey_iinc (cd_274 rfl) mt_274 rfl f6 ?_
    refine ey_goto (cd_274 rfl) rfl ?_
    cases e
    exact K (jup lv 6 (jI (x6 + 1))) f0 f1 f2 f3 f4 rfl
theorem jk_274_l235 {L : Nat} {xs : Nat → Int32} {b : jH} (hb : 152 ≤ b.1) (h6 : b.1 ≤ 1000000) {x1 : Int} {x2 : Int} {x3 : Int} {x4 : Int} {x6 : Int} {m : jM} {x : jM} {r : mm_R} (e : jd_274_l235 x1 x2 x3 x4 x6 m = some x) (K : (∀ lv : jL, ey (mm_xt L xs) 3 274 283 lv [] (jhm b x) r)) : ∀ lv : jL, lv 0 = some (jR (some 76)) → lv 1 = some (jI x1) → lv 2 = some (jI x2) → lv 3 = some (jI x3) → lv 4 = some (jI x4) → lv 6 = some (jI x6) → ey (mm_xt L xs) 3 274 235 lv [] (jhm b m) r := by
  unfold jd_274_l235 at e
  exact jlp_ok2 (P := fun s => ∀ lv : jL, lv 0 = some (jR (some 76)) → lv 1 = some (jI x1) → lv 2 = some (jI x2) → lv 3 = some (jI x3) → lv 4 = some (jI x4) → lv 6 = some (jI s.1) → ey (mm_xt L xs) 3 274 235 lv [] (jhm b s.2) r) (Q := fun x => (∀ lv : jL, ey (mm_xt L xs) 3 274 283 lv [] (jhm b x) r)) (fun s q hq hk => jk_274_s235 hb h6 hq hk) jfu _ x e K
set_option maxRecDepth 100000 in
theorem ok_274 {L : Nat} {xs : Nat → Int32} {b : jH} (hb : 152 ≤ b.1) (h6 : b.1 ≤ 1000000) {p0 : Int} {p1 : Int} {m : jM} {o : jM} (e : jd_274 p0 p1 m = some o) : mm_Runs (mm_xt L xs) 4 274 ([jR (some 76), jI p0, jI p1].map jcv) (jaH (jhm b m)) (.inl (none, jaH (jhm b o))) := by
  refine ey_run0 _ mt_274 (jsl_s rfl) ?_
  unfold jd_274 at e
  refine ey_aload_n (cd_274 rfl) rfl ?_
  refine ey_getf_i (z := (m 76 33)) (cd_274 rfl) mt_274 rfl rfl rfl (jhm_gi hb 33) ?_
  refine ey_iload_n (cd_274 rfl) rfl ?_
  refine ey_cs (s0 := [jI p1, jI (m 76 33)]) (s1 := []) (st' := [jI (jd_206 (m 76 33) p1)]) (cd_274 rfl) mt_274 mt_206 rfl (by decide) rfl rfl (jsml_s rfl) rfl (mm_Runs.up (d := 1) (by decide) (ok_206 )) ?_
  refine ey_istore_n (cd_274 rfl) mt_274 rfl ?_
  refine ey_aload_n (cd_274 rfl) rfl ?_
  refine ey_getf_i (z := (m 76 34)) (cd_274 rfl) mt_274 rfl rfl rfl (jhm_gi hb 34) ?_
  refine ey_iload_n (cd_274 rfl) (jup_pi (lv := (jlf (jla 0 [jR (some 76), jI p0, jI p1]))) (j := 2) (v := jI (jd_206 (m 76 33) p1)) (z := p1) rfl) ?_
  refine ey_cs (s0 := [jI p1, jI (m 76 34)]) (s1 := []) (st' := [jI (jd_206 (m 76 34) p1)]) (cd_274 rfl) mt_274 mt_206 rfl (by decide) rfl rfl (jsml_s rfl) rfl (mm_Runs.up (d := 1) (by decide) (ok_206 )) ?_
  refine ey_istore (cd_274 rfl) mt_274 rfl ?_
  refine ey_iconst (cd_274 rfl) ?_
  refine ey_istore (cd_274 rfl) mt_274 rfl ?_
  obtain ⟨x27, e28, e⟩ := jbind e
  refine jk_274_l22 hb h6 e28 ?_ (jup (jup (jup (jlf (jla 0 [jR (some 76), jI p0, jI p1])) 3 (jI (jd_206 (m 76 33) p1))) 4 (jI (jd_206 (m 76 34) p1))) 5 (jI 0)) rfl rfl (jup_o rfl (jup_o rfl (jup_pi (lv := (jlf (jla 0 [jR (some 76), jI p0, jI p1]))) (j := 2) (v := jI (jd_206 (m 76 33) p1)) (z := p1) rfl))) (jup_o rfl (jup_pi (lv := (jup (jlf (jla 0 [jR (some 76), jI p0, jI p1])) 3 (jI (jd_206 (m 76 33) p1)))) (j := 3) (v := jI (jd_206 (m 76 34) p1)) (z := (jd_206 (m 76 33) p1)) rfl)) (jup_pi (lv := (jup (jup (jlf (jla 0 [jR (some 76), jI p0, jI p1])) 3 (jI (jd_206 (m 76 33) p1))) 4 (jI (jd_206 (m 76 34) p1)))) (j := 4) (v := jI 0) (z := (jd_206 (m 76 34) p1)) rfl) rfl
  cases x27 with
  | inl y29 =>
    replace e : (some y29 : Option jM) = some o := e
    intro lv 
    cases e
    exact ey_retv (cd_274 rfl) mt_274 rfl
  | inr y30 =>
    replace e : (jse y30 (fun y31 => some y31) (fun y32 => ((jd_273 (jd_206 (m 76 33) p1) (jdiv (jd_206 (m 76 33) p1) 2) (jdiv (jd_206 (m 76 34) p1) 2) 0 1 y32).bind fun m33 => ((jd_273 (jd_206 (m 76 33) p1) (jdiv (jd_206 (m 76 33) p1) 2) (jdiv (jd_206 (m 76 34) p1) 2) 1 1 m33).bind fun m35 => ((jd_273 (jd_206 (m 76 33) p1) (jd_206 (m 76 33) p1) (jd_206 (m 76 34) p1) 0 1 m35).bind fun m37 => ((jd_273 (jd_206 (m 76 33) p1) (jd_206 (m 76 33) p1) (jd_206 (m 76 34) p1) 1 1 m37).bind fun m39 => ((jd_274_l235 p0 p1 (jd_206 (m 76 33) p1) (jd_206 (m 76 34) p1) 0 m39).bind fun x46 => some x46)))))) : Option jM) = some o := e
    cases y30 with
    | inl y31 =>
      replace e : (some y31 : Option jM) = some o := e
      intro lv 
      cases e
      exact ey_retv (cd_274 rfl) mt_274 rfl
    | inr y32 =>
      replace e : (((jd_273 (jd_206 (m 76 33) p1) (jdiv (jd_206 (m 76 33) p1) 2) (jdiv (jd_206 (m 76 34) p1) 2) 0 1 y32).bind fun m33 => ((jd_273 (jd_206 (m 76 33) p1) (jdiv (jd_206 (m 76 33) p1) 2) (jdiv (jd_206 (m 76 34) p1) 2) 1 1 m33).bind fun m35 => ((jd_273 (jd_206 (m 76 33) p1) (jd_206 (m 76 33) p1) (jd_206 (m 76 34) p1) 0 1 m35).bind fun m37 => ((jd_273 (jd_206 (m 76 33) p1) (jd_206 (m 76 33) p1) (jd_206 (m 76 34) p1) 1 1 m37).bind fun m39 => ((jd_274_l235 p0 p1 (jd_206 (m 76 33) p1) (jd_206 (m 76 34) p1) 0 m39).bind fun x46 => some x46))))) : Option jM) = some o := e
      intro lv g0 g1 g2 g3 g4
      refine ey_aload_n (cd_274 rfl) g0 ?_
      refine ey_iload_n (cd_274 rfl) g3 ?_
      refine ey_iload_n (cd_274 rfl) g3 ?_
      refine ey_iconst (cd_274 rfl) ?_
      refine ey_idiv (cd_274 rfl) (by decide) ?_
      refine ey_iload (cd_274 rfl) g4 ?_
      refine ey_iconst (cd_274 rfl) ?_
      refine ey_idiv (cd_274 rfl) (by decide) ?_
      refine ey_iconst (cd_274 rfl) ?_
      refine ey_iconst (cd_274 rfl) ?_
      obtain ⟨m33, e34, e⟩ := jbind e
      refine ey_cv (s0 := [jI 1, jI 0, jI (jdiv (jd_206 (m 76 34) p1) 2), jI (jdiv (jd_206 (m 76 33) p1) 2), jI (jd_206 (m 76 33) p1), jR (some 76)]) (s1 := []) (st' := []) (cd_274 rfl) mt_274 mt_273 rfl rfl rfl (jhm_is hb) rfl (jsml_s rfl) rfl (mm_Runs.up (d := 2) (by decide) (ok_273 hb h6 e34)) ?_
      refine ey_aload_n (cd_274 rfl) g0 ?_
      refine ey_iload_n (cd_274 rfl) g3 ?_
      refine ey_iload_n (cd_274 rfl) g3 ?_
      refine ey_iconst (cd_274 rfl) ?_
      refine ey_idiv (cd_274 rfl) (by decide) ?_
      refine ey_iload (cd_274 rfl) g4 ?_
      refine ey_iconst (cd_274 rfl) ?_
      refine ey_idiv (cd_274 rfl) (by decide) ?_
      refine ey_iconst (cd_274 rfl) ?_
      refine ey_iconst (cd_274 rfl) ?_
      obtain ⟨m35, e36, e⟩ := jbind e
      refine ey_cv (s0 := [jI 1, jI 1, jI (jdiv (jd_206 (m 76 34) p1) 2), jI (jdiv (jd_206 (m 76 33) p1) 2), jI (jd_206 (m 76 33) p1), jR (some 76)]) (s1 := []) (st' := []) (cd_274 rfl) mt_274 mt_273 rfl rfl rfl (jhm_is hb) rfl (jsml_s rfl) rfl (mm_Runs.up (d := 2) (by decide) (ok_273 hb h6 e36)) ?_
      refine ey_aload_n (cd_274 rfl) g0 ?_
      refine ey_iload_n (cd_274 rfl) g3 ?_
      refine ey_iload_n (cd_274 rfl) g3 ?_
      refine ey_iload (cd_274 rfl) g4 ?_
      refine ey_iconst (cd_274 rfl) ?_
      refine ey_iconst (cd_274 rfl) ?_
      obtain ⟨m37, e38, e⟩ := jbind e
      refine ey_cv (s0 := [jI 1, jI 0, jI (jd_206 (m 76 34) p1), jI (jd_206 (m 76 33) p1), jI (jd_206 (m 76 33) p1), jR (some 76)]) (s1 := []) (st' := []) (cd_274 rfl) mt_274 mt_273 rfl rfl rfl (jhm_is hb) rfl (jsml_s rfl) rfl (mm_Runs.up (d := 2) (by decide) (ok_273 hb h6 e38)) ?_
      refine ey_aload_n (cd_274 rfl) g0 ?_
      refine ey_iload_n (cd_274 rfl) g3 ?_
      refine ey_iload_n (cd_274 rfl) g3 ?_
      refine ey_iload (cd_274 rfl) g4 ?_
      refine ey_iconst (cd_274 rfl) ?_
      refine ey_iconst (cd_274 rfl) ?_
      obtain ⟨m39, e40, e⟩ := jbind e
      refine ey_cv (s0 := [jI 1, jI 1, jI (jd_206 (m 76 34) p1), jI (jd_206 (m 76 33) p1), jI (jd_206 (m 76 33) p1), jR (some 76)]) (s1 := []) (st' := []) (cd_274 rfl) mt_274 mt_273 rfl rfl rfl (jhm_is hb) rfl (jsml_s rfl) rfl (mm_Runs.up (d := 2) (by decide) (ok_273 hb h6 e40)) ?_
      refine ey_iconst (cd_274 rfl) ?_
      refine ey_istore (cd_274 rfl) mt_274 rfl ?_
      obtain ⟨x46, e47, e⟩ := jbind e
      refine jk_274_l235 hb h6 e47 ?_ (jup lv 6 (jI 0)) g0 g1 g2 g3 g4 rfl
      intro lv 
      cases e
      exact ey_retv (cd_274 rfl) mt_274 rfl
