theorem cd_203 {pc : Nat} {i : Instr × Nat} (h : mm_lk mm_c203 pc = some i) : mm_cd 203 pc = some i := h
theorem mt_203 : mm_MT 203 = (12, 1, some .int, 0, 0, []) := rfl
set_option maxRecDepth 100000 in
theorem ok_203 {L : Nat} {xs : Nat → Int32} {b : jH} (hb : 152 ≤ b.1) (h6 : b.1 ≤ 1000000)  {m : jM}  : mm_Runs (mm_xt L xs) 1 203 ([jR (some 76)].map jcv) (jaH (jhm b m)) (.inl (some (jcv (jI (jd_203  m))), jaH (jhm b m))) := by
  refine ey_run0 _ mt_203 (jsl_s rfl) ?_
  refine ey_aload_n (cd_203 rfl) rfl ?_
  refine ey_getf_i (z := (m 76 0)) (cd_203 rfl) mt_203 rfl rfl rfl (jhm_gi hb 0) ?_
  rw [show (jd_203  m) = (m 76 0) from rfl]
  exact ey_reti (cd_203 rfl) mt_203 rfl
theorem cd_204 {pc : Nat} {i : Instr × Nat} (h : mm_lk mm_c204 pc = some i) : mm_cd 204 pc = some i := h
theorem mt_204 : mm_MT 204 = (12, 6, some .boolean, 3, 1, []) := rfl
theorem bo_204 {p0 : Int} {p1 : Int} {p2 : Int} : jd_204 p0 p1 p2 = 0 ∨ jd_204 p0 p1 p2 = 1 := by
  unfold jd_204
  exact (jbo_ite (Or.inl rfl) (jbo_ite (Or.inl rfl) (Or.inr rfl)))
set_option maxRecDepth 100000 in
theorem ok_204 {L : Nat} {xs : Nat → Int32} {p0 : Int} {p1 : Int} {p2 : Int} {h : jH} : mm_Runs (mm_xt L xs) 1 204 ([jJ p0, jJ p1, jJ p2].map jcv) (jaH h) (.inl (some (jcv (jI (jd_204 p0 p1 p2))), jaH h)) := by
  refine ey_run0 _ mt_204 (jsl_s rfl) ?_
  refine ey_lload_n (cd_204 rfl) rfl ?_
  refine ey_lload_n (cd_204 rfl) rfl ?_
  refine ey_lcmp (cd_204 rfl) ?_
  by_cases q1 : (jwl p0) < (jwl p1)
  · refine ey_zlt (cd_204 rfl) rfl rfl ((jlc_lt rfl rfl).mpr q1) ?_
    refine ey_iconst (cd_204 rfl) ?_
    rw [show (jd_204 p0 p1 p2) = 0 from by unfold jd_204; exact (if_pos q1)]
    exact ey_retz (cd_204 rfl) mt_204 rfl (Or.inl rfl)
  · refine ey_ylt (cd_204 rfl) rfl rfl (fun w => q1 ((jlc_lt rfl rfl).mp w)) ?_
    refine ey_lload_n (cd_204 rfl) rfl ?_
    refine ey_lload (cd_204 rfl) rfl ?_
    refine ey_lcmp (cd_204 rfl) ?_
    by_cases q2 : (jwl p2) < (jwl p0)
    · refine ey_zgt (cd_204 rfl) rfl rfl ((jlc_gt rfl rfl).mpr q2) ?_
      refine ey_iconst (cd_204 rfl) ?_
      rw [show (jd_204 p0 p1 p2) = 0 from by unfold jd_204; exact ((if_neg q1).trans (if_pos q2))]
      exact ey_retz (cd_204 rfl) mt_204 rfl (Or.inl rfl)
    · refine ey_ygt (cd_204 rfl) rfl rfl (fun w => q2 ((jlc_gt rfl rfl).mp w)) ?_
      refine ey_iconst (cd_204 rfl) ?_
      refine ey_goto (cd_204 rfl) rfl ?_
      rw [show (jd_204 p0 p1 p2) = 1 from by unfold jd_204; exact ((if_neg q1).trans (if_neg q2))]
      exact ey_retz (cd_204 rfl) mt_204 rfl (Or.inr rfl)
theorem cd_205 {pc : Nat} {i : Instr × Nat} (h : mm_lk mm_c205 pc = some i) : mm_cd 205 pc = some i := h
theorem mt_205 : mm_MT 205 = (12, 4, some .int, 3, 1, []) := rfl
set_option maxRecDepth 100000 in
theorem ok_205 {L : Nat} {xs : Nat → Int32} {p0 : Int} {p1 : Int} {p2 : Int} {h : jH} : mm_Runs (mm_xt L xs) 1 205 ([jJ p0, jI p1, jI p2].map jcv) (jaH h) (.inl (some (jcv (jI (jd_205 p0 p1 p2))), jaH h)) := by
  refine ey_run0 _ mt_205 (jsl_s rfl) ?_
  refine ey_lload_n (cd_205 rfl) rfl ?_
  refine ey_iload_n (cd_205 rfl) rfl ?_
  refine ey_i2l (cd_205 rfl) ?_
  refine ey_lcmp (cd_205 rfl) ?_
  by_cases q1 : (jw p1) ≤ (jwl p0)
  · refine ey_zge (cd_205 rfl) rfl rfl ((jlc_ge rfl (jwl_jw _)).mpr q1) ?_
    refine ey_lload_n (cd_205 rfl) rfl ?_
    refine ey_iload_n (cd_205 rfl) rfl ?_
    refine ey_i2l (cd_205 rfl) ?_
    refine ey_lcmp (cd_205 rfl) ?_
    by_cases q2 : (jwl p0) ≤ (jw p2)
    · refine ey_zle (cd_205 rfl) rfl rfl ((jlc_le rfl (jwl_jw _)).mpr q2) ?_
      refine ey_lload_n (cd_205 rfl) rfl ?_
      refine ey_l2i (cd_205 rfl) ?_
      rw [show (jd_205 p0 p1 p2) = p0 from by unfold jd_205; exact ((if_pos q1).trans (if_pos q2))]
      exact ey_reti (cd_205 rfl) mt_205 rfl
    · refine ey_yle (cd_205 rfl) rfl rfl (fun w => q2 ((jlc_le rfl (jwl_jw _)).mp w)) ?_
      refine ey_iload_n (cd_205 rfl) rfl ?_
      refine ey_goto (cd_205 rfl) rfl ?_
      rw [show (jd_205 p0 p1 p2) = p2 from by unfold jd_205; exact ((if_pos q1).trans (if_neg q2))]
      exact ey_reti (cd_205 rfl) mt_205 rfl
  · refine ey_yge (cd_205 rfl) rfl rfl (fun w => q1 ((jlc_ge rfl (jwl_jw _)).mp w)) ?_
    refine ey_iload_n (cd_205 rfl) rfl ?_
    refine ey_goto (cd_205 rfl) rfl ?_
    rw [show (jd_205 p0 p1 p2) = p1 from by unfold jd_205; exact (if_neg q1)]
    exact ey_reti (cd_205 rfl) mt_205 rfl
theorem cd_206 {pc : Nat} {i : Instr × Nat} (h : mm_lk mm_c206 pc = some i) : mm_cd 206 pc = some i := h
theorem mt_206 : mm_MT 206 = (12, 2, some .int, 2, 1, []) := rfl
set_option maxRecDepth 100000 in
theorem ok_206 {L : Nat} {xs : Nat → Int32} {p0 : Int} {p1 : Int} {h : jH} : mm_Runs (mm_xt L xs) 1 206 ([jI p0, jI p1].map jcv) (jaH h) (.inl (some (jcv (jI (jd_206 p0 p1))), jaH h)) := by
  refine ey_run0 _ mt_206 (jsl_s rfl) ?_
  refine ey_iload_n (cd_206 rfl) rfl ?_
  by_cases q1 : (jw p1) = 0
  · refine ey_yne (cd_206 rfl) rfl rfl (fun w => w q1) ?_
    refine ey_iload_n (cd_206 rfl) rfl ?_
    refine ey_goto (cd_206 rfl) rfl ?_
    rw [show (jd_206 p0 p1) = p0 from by unfold jd_206; exact (if_pos q1)]
    exact ey_reti (cd_206 rfl) mt_206 rfl
  · refine ey_zne (cd_206 rfl) rfl rfl q1 ?_
    refine ey_iload_n (cd_206 rfl) rfl ?_
    refine ey_iconst (cd_206 rfl) ?_
    refine ey_idiv (cd_206 rfl) (by decide) ?_
    rw [show (jd_206 p0 p1) = (jdiv p0 2) from by unfold jd_206; exact (if_neg q1)]
    exact ey_reti (cd_206 rfl) mt_206 rfl
theorem cd_207 {pc : Nat} {i : Instr × Nat} (h : mm_lk mm_c207 pc = some i) : mm_cd 207 pc = some i := h
theorem mt_207 : mm_MT 207 = (12, 1, some .int, 1, 1, []) := rfl
set_option maxRecDepth 100000 in
theorem ok_207 {L : Nat} {xs : Nat → Int32} {p0 : Int} {h : jH} : mm_Runs (mm_xt L xs) 1 207 ([jI p0].map jcv) (jaH h) (.inl (some (jcv (jI (jd_207 p0))), jaH h)) := by
  refine ey_run0 _ mt_207 (jsl_s rfl) ?_
  refine ey_iload_n (cd_207 rfl) rfl ?_
  by_cases q1 : (jw p0) = 0
  · refine ey_yne (cd_207 rfl) rfl rfl (fun w => w q1) ?_
    refine ey_iconst (cd_207 rfl) ?_
    refine ey_goto (cd_207 rfl) rfl ?_
    rw [show (jd_207 p0) = 0 from by unfold jd_207; exact (if_pos q1)]
    exact ey_reti (cd_207 rfl) mt_207 rfl
  · refine ey_zne (cd_207 rfl) rfl rfl q1 ?_
    refine ey_iload_n (cd_207 rfl) rfl ?_
    refine ey_iconst (cd_207 rfl) ?_
    by_cases q2 : (jw p0) = 1
    · refine ey_nne (cd_207 rfl) rfl rfl (show jw 1 = 1 from by decide) (fun w => w q2) ?_
      refine ey_sipush (cd_207 rfl) (by decide) ?_
      refine ey_goto (cd_207 rfl) rfl ?_
      rw [show (jd_207 p0) = 576 from by unfold jd_207; exact ((if_neg q1).trans (if_pos q2))]
      exact ey_reti (cd_207 rfl) mt_207 rfl
    · refine ey_cne (cd_207 rfl) rfl rfl (show jw 1 = 1 from by decide) q2 ?_
      refine ey_sipush (cd_207 rfl) (by decide) ?_
      rw [show (jd_207 p0) = 720 from by unfold jd_207; exact ((if_neg q1).trans (if_neg q2))]
      exact ey_reti (cd_207 rfl) mt_207 rfl
theorem cd_208 {pc : Nat} {i : Instr × Nat} (h : mm_lk mm_c208 pc = some i) : mm_cd 208 pc = some i := h
theorem mt_208 : mm_MT 208 = (12, 1, some .boolean, 1, 1, []) := rfl
theorem bo_208 {p0 : Int} : jd_208 p0 = 0 ∨ jd_208 p0 = 1 := by
  unfold jd_208
  exact (jbo_ite (Or.inr rfl) (jbo_ite (Or.inr rfl) (jbo_ite (Or.inr rfl) (Or.inl rfl))))
set_option maxRecDepth 100000 in
theorem ok_208 {L : Nat} {xs : Nat → Int32} {p0 : Int} {h : jH} : mm_Runs (mm_xt L xs) 1 208 ([jI p0].map jcv) (jaH h) (.inl (some (jcv (jI (jd_208 p0))), jaH h)) := by
  refine ey_run0 _ mt_208 (jsl_s rfl) ?_
  refine ey_iload_n (cd_208 rfl) rfl ?_
  refine ey_bipush (cd_208 rfl) (by decide) ?_
  by_cases q1 : (jw p0) = 8
  · refine ey_ceq (cd_208 rfl) rfl rfl (show jw 8 = 8 from by decide) q1 ?_
    refine ey_iconst (cd_208 rfl) ?_
    refine ey_goto (cd_208 rfl) rfl ?_
    rw [show (jd_208 p0) = 1 from by unfold jd_208; exact (if_pos q1)]
    exact ey_retz (cd_208 rfl) mt_208 rfl (Or.inr rfl)
  · refine ey_neq (cd_208 rfl) rfl rfl (show jw 8 = 8 from by decide) q1 ?_
    refine ey_iload_n (cd_208 rfl) rfl ?_
    refine ey_bipush (cd_208 rfl) (by decide) ?_
    by_cases q2 : (jw p0) = 16
    · refine ey_ceq (cd_208 rfl) rfl rfl (show jw 16 = 16 from by decide) q2 ?_
      refine ey_iconst (cd_208 rfl) ?_
      refine ey_goto (cd_208 rfl) rfl ?_
      rw [show (jd_208 p0) = 1 from by unfold jd_208; exact ((if_neg q1).trans (if_pos q2))]
      exact ey_retz (cd_208 rfl) mt_208 rfl (Or.inr rfl)
    · refine ey_neq (cd_208 rfl) rfl rfl (show jw 16 = 16 from by decide) q2 ?_
      refine ey_iload_n (cd_208 rfl) rfl ?_
      refine ey_bipush (cd_208 rfl) (by decide) ?_
      by_cases q3 : (jw p0) = 24
      · refine ey_nne (cd_208 rfl) rfl rfl (show jw 24 = 24 from by decide) (fun w => w q3) ?_
        refine ey_iconst (cd_208 rfl) ?_
        refine ey_goto (cd_208 rfl) rfl ?_
        rw [show (jd_208 p0) = 1 from by unfold jd_208; exact ((if_neg q1).trans ((if_neg q2).trans (if_pos q3)))]
        exact ey_retz (cd_208 rfl) mt_208 rfl (Or.inr rfl)
      · refine ey_cne (cd_208 rfl) rfl rfl (show jw 24 = 24 from by decide) q3 ?_
        refine ey_iconst (cd_208 rfl) ?_
        rw [show (jd_208 p0) = 0 from by unfold jd_208; exact ((if_neg q1).trans ((if_neg q2).trans (if_neg q3)))]
        exact ey_retz (cd_208 rfl) mt_208 rfl (Or.inl rfl)
theorem cd_209 {pc : Nat} {i : Instr × Nat} (h : mm_lk mm_c209 pc = some i) : mm_cd 209 pc = some i := h
theorem mt_209 : mm_MT 209 = (12, 1, some .int, 1, 1, []) := rfl
set_option maxRecDepth 100000 in
theorem ok_209 {L : Nat} {xs : Nat → Int32} {p0 : Int} {h : jH} : mm_Runs (mm_xt L xs) 1 209 ([jI p0].map jcv) (jaH h) (.inl (some (jcv (jI (jd_209 p0))), jaH h)) := by
  refine ey_run0 _ mt_209 (jsl_s rfl) ?_
  refine ey_iload_n (cd_209 rfl) rfl ?_
  refine ey_iconst (cd_209 rfl) ?_
  refine ey_ishr (cd_209 rfl) ?_
  rw [show (jd_209 p0) = (jshr p0 1) from rfl]
  exact ey_reti (cd_209 rfl) mt_209 rfl
theorem cd_210 {pc : Nat} {i : Instr × Nat} (h : mm_lk mm_c210 pc = some i) : mm_cd 210 pc = some i := h
theorem mt_210 : mm_MT 210 = (12, 2, some .boolean, 1, 0, []) := rfl
theorem bo_210 {p0 : Int} {m : jM} : jd_210 p0 m = 0 ∨ jd_210 p0 m = 1 := by
  unfold jd_210
  exact bo_204
set_option maxRecDepth 100000 in
theorem ok_210 {L : Nat} {xs : Nat → Int32} {b : jH} (hb : 152 ≤ b.1) (h6 : b.1 ≤ 1000000) {p0 : Int} {m : jM}  : mm_Runs (mm_xt L xs) 2 210 ([jR (some 76), jI p0].map jcv) (jaH (jhm b m)) (.inl (some (jcv (jI (jd_210 p0 m))), jaH (jhm b m))) := by
  refine ey_run0 _ mt_210 (jsl_s rfl) ?_
  refine ey_iload_n (cd_210 rfl) rfl ?_
  refine ey_i2l (cd_210 rfl) ?_
  refine ey_lconst0 (cd_210 rfl) ?_
  refine ey_aload_n (cd_210 rfl) rfl ?_
  refine ey_getf_i (z := (m 76 1)) (cd_210 rfl) mt_210 rfl rfl rfl (jhm_gi hb 1) ?_
  refine ey_iconst (cd_210 rfl) ?_
  refine ey_isub (cd_210 rfl) ?_
  refine ey_i2l (cd_210 rfl) ?_
  refine ey_cs (s0 := [jJ (jw ((m 76 1) - 1)), jJ 0, jJ (jw p0)]) (s1 := []) (st' := [jI (jd_204 (jw p0) 0 (jw ((m 76 1) - 1)))]) (cd_210 rfl) mt_210 mt_204 rfl (by decide) rfl rfl (jsml_s rfl) rfl (ok_204 ) ?_
  rw [show (jd_210 p0 m) = (jd_204 (jw p0) 0 (jw ((m 76 1) - 1))) from rfl]
  exact ey_retz (cd_210 rfl) mt_210 rfl bo_204
theorem cd_211 {pc : Nat} {i : Instr × Nat} (h : mm_lk mm_c211 pc = some i) : mm_cd 211 pc = some i := h
theorem mt_211 : mm_MT 211 = (12, 1, some .boolean, 1, 1, []) := rfl
theorem bo_211 {p0 : Int} : jd_211 p0 = 0 ∨ jd_211 p0 = 1 := by
  unfold jd_211
  exact bo_204
set_option maxRecDepth 100000 in
theorem ok_211 {L : Nat} {xs : Nat → Int32} {p0 : Int} {h : jH} : mm_Runs (mm_xt L xs) 2 211 ([jI p0].map jcv) (jaH h) (.inl (some (jcv (jI (jd_211 p0))), jaH h)) := by
  refine ey_run0 _ mt_211 (jsl_s rfl) ?_
  refine ey_iload_n (cd_211 rfl) rfl ?_
  refine ey_i2l (cd_211 rfl) ?_
  refine ey_lconst0 (cd_211 rfl) ?_
  refine ey_ldc2 (z := 2) (cd_211 rfl) mt_211 rfl (by decide) ?_
  refine ey_cs (s0 := [jJ 2, jJ 0, jJ (jw p0)]) (s1 := []) (st' := [jI (jd_204 (jw p0) 0 2)]) (cd_211 rfl) mt_211 mt_204 rfl (by decide) rfl rfl (jsml_s rfl) rfl (ok_204 ) ?_
  rw [show (jd_211 p0) = (jd_204 (jw p0) 0 2) from rfl]
  exact ey_retz (cd_211 rfl) mt_211 rfl bo_204
theorem cd_212 {pc : Nat} {i : Instr × Nat} (h : mm_lk mm_c212 pc = some i) : mm_cd 212 pc = some i := h
theorem mt_212 : mm_MT 212 = (12, 5, some .int, 4, 0, []) := rfl
set_option maxRecDepth 100000 in
theorem ok_212 {L : Nat} {xs : Nat → Int32} {b : jH} (hb : 152 ≤ b.1) (h6 : b.1 ≤ 1000000) {p0 : Int} {p1 : Int} {p2 : Int} {p3 : Int} {m : jM} {o : Int} (e : jd_212 p0 p1 p2 p3 m = some o) : mm_Runs (mm_xt L xs) 2 212 ([jR (some 76), jI p0, jI p1, jI p2, jI p3].map jcv) (jaH (jhm b m)) (.inl (some (jcv (jI o)), jaH (jhm b m))) := by
  refine ey_run0 _ mt_212 (jsl_s rfl) ?_
  unfold jd_212 at e
  refine ey_sipush (cd_212 rfl) (by decide) ?_
  refine ey_iload_n (cd_212 rfl) rfl ?_
  refine ey_imul (cd_212 rfl) ?_
  refine ey_iload_n (cd_212 rfl) rfl ?_
  refine ey_cs (s0 := [jI p1, jI (864 * p0)]) (s1 := [jI (864 * p0)]) (st' := [jI (jd_207 p1), jI (864 * p0)]) (cd_212 rfl) mt_212 mt_207 rfl (by decide) rfl rfl (jsml_s rfl) rfl (ok_207 ) ?_
  refine ey_iadd (cd_212 rfl) ?_
  refine ey_iload (cd_212 rfl) rfl ?_
  refine ey_aload_n (cd_212 rfl) rfl ?_
  refine ey_getf_r (cd_212 rfl) mt_212 rfl rfl rfl (jhm_gr (q := 77) hb rfl) ?_
  refine ey_iload_n (cd_212 rfl) rfl ?_
  obtain ⟨v1, e2, e⟩ := jbind e
  refine ey_iald (cd_212 rfl) (jhm_ai hb h6 (by decide) rfl e2) ?_
  refine ey_iload_n (cd_212 rfl) rfl ?_
  refine ey_cs (s0 := [jI p1, jI v1, jI p3, jI ((864 * p0) + (jd_207 p1))]) (s1 := [jI p3, jI ((864 * p0) + (jd_207 p1))]) (st' := [jI (jd_206 v1 p1), jI p3, jI ((864 * p0) + (jd_207 p1))]) (cd_212 rfl) mt_212 mt_206 rfl (by decide) rfl rfl (jsml_s rfl) rfl (ok_206 ) ?_
  refine ey_imul (cd_212 rfl) ?_
  refine ey_iadd (cd_212 rfl) ?_
  refine ey_iload_n (cd_212 rfl) rfl ?_
  refine ey_iadd (cd_212 rfl) ?_
  cases e
  exact ey_reti (cd_212 rfl) mt_212 rfl
theorem cd_213 {pc : Nat} {i : Instr × Nat} (h : mm_lk mm_c213 pc = some i) : mm_cd 213 pc = some i := h
theorem mt_213 : mm_MT 213 = (12, 3, some .int, 2, 0, []) := rfl
set_option maxRecDepth 100000 in
theorem ok_213 {L : Nat} {xs : Nat → Int32} {b : jH} (hb : 152 ≤ b.1) (h6 : b.1 ≤ 1000000) {p0 : Int} {p1 : Int} {m : jM} {o : Int} (e : jd_213 p0 p1 m = some o) : mm_Runs (mm_xt L xs) 2 213 ([jR (some 76), jI p0, jI p1].map jcv) (jaH (jhm b m)) (.inl (some (jcv (jI o)), jaH (jhm b m))) := by
  refine ey_run0 _ mt_213 (jsl_s rfl) ?_
  unfold jd_213 at e
  refine ey_aload_n (cd_213 rfl) rfl ?_
  refine ey_getf_r (cd_213 rfl) mt_213 rfl rfl rfl (jhm_gr (q := 77) hb rfl) ?_
  refine ey_iload_n (cd_213 rfl) rfl ?_
  obtain ⟨v1, e2, e⟩ := jbind e
  refine ey_iald (cd_213 rfl) (jhm_ai hb h6 (by decide) rfl e2) ?_
  refine ey_iload_n (cd_213 rfl) rfl ?_
  refine ey_cs (s0 := [jI p1, jI v1]) (s1 := []) (st' := [jI (jd_206 v1 p1)]) (cd_213 rfl) mt_213 mt_206 rfl (by decide) rfl rfl (jsml_s rfl) rfl (ok_206 ) ?_
  refine ey_aload_n (cd_213 rfl) rfl ?_
  refine ey_getf_r (cd_213 rfl) mt_213 rfl rfl rfl (jhm_gr (q := 78) hb rfl) ?_
  refine ey_iload_n (cd_213 rfl) rfl ?_
  obtain ⟨v3, e4, e⟩ := jbind e
  refine ey_iald (cd_213 rfl) (jhm_ai hb h6 (by decide) rfl e4) ?_
  refine ey_iload_n (cd_213 rfl) rfl ?_
  refine ey_cs (s0 := [jI p1, jI v3, jI (jd_206 v1 p1)]) (s1 := [jI (jd_206 v1 p1)]) (st' := [jI (jd_206 v3 p1), jI (jd_206 v1 p1)]) (cd_213 rfl) mt_213 mt_206 rfl (by decide) rfl rfl (jsml_s rfl) rfl (ok_206 ) ?_
  refine ey_imul (cd_213 rfl) ?_
  cases e
  exact ey_reti (cd_213 rfl) mt_213 rfl
theorem cd_214 {pc : Nat} {i : Instr × Nat} (h : mm_lk mm_c214 pc = some i) : mm_cd 214 pc = some i := h
theorem mt_214 : mm_MT 214 = (12, 10, some .int, 5, 0, []) := rfl
set_option maxRecDepth 100000 in
theorem jk_214_s151 {L : Nat} {xs : Nat → Int32} {b : jH} (hb : 152 ≤ b.1) (h6 : b.1 ≤ 1000000) {x3 : Int} {x4 : Int} {x5 : Int} {x7 : Int} {x8 : Int} {x9 : Int} {m : jM} {o : ((Int × jM) ⊕ jM)} {r : mm_R} (e : jd_214_s151 x3 x4 x5 x7 x8 x9 m = some o) (K : jsm (fun s => (∀ lv : jL, lv 0 = some (jR (some 76)) → lv 3 = some (jI x3) → lv 4 = some (jI x4) → lv 5 = some (jI x5) → lv 7 = some (jI x7) → lv 8 = some (jI x8) → lv 9 = some (jI s.1) → ey (mm_xt L xs) 2 214 151 lv [] (jhm b s.2) r)) (fun x => (∀ lv : jL, lv 0 = some (jR (some 76)) → lv 3 = some (jI x3) → lv 4 = some (jI x4) → lv 5 = some (jI x5) → lv 7 = some (jI x7) → ey (mm_xt L xs) 2 214 196 lv [] (jhm b x) r)) o) : ∀ lv : jL, lv 0 = some (jR (some 76)) → lv 3 = some (jI x3) → lv 4 = some (jI x4) → lv 5 = some (jI x5) → lv 7 = some (jI x7) → lv 8 = some (jI x8) → lv 9 = some (jI x9) → ey (mm_xt L xs) 2 214 151 lv [] (jhm b m) r := by
  intro lv f0 f3 f4 f5 f7 f8 f9
  unfold jd_214_s151 at e
  refine ey_iload (cd_214 rfl) f9 ?_
  refine ey_aload_n (cd_214 rfl) f0 ?_
  refine ey_aload_n (cd_214 rfl) f0 ?_
  refine ey_getf_i (z := (m 76 1)) (cd_214 rfl) mt_214 rfl rfl rfl (jhm_gi hb 1) ?_
  refine ey_iload (cd_214 rfl) f7 ?_
  obtain ⟨v9, e10, e⟩ := jbind e
  refine ey_cv (s0 := [jI x7, jI (m 76 1), jR (some 76), jI x9]) (s1 := [jI x9]) (st' := [jI v9, jI x9]) (cd_214 rfl) mt_214 mt_213 rfl rfl rfl (jhm_is hb) rfl (jsml_s rfl) rfl (ok_213 hb h6 e10) ?_
  by_cases q11 : (jw v9) ≤ (jw x9)
  · rw [if_pos q11] at e
    refine ey_cge (cd_214 rfl) rfl rfl rfl q11 ?_
    cases e
    exact K lv f0 f3 f4 f5 f7
  · rw [if_neg q11] at e
    refine ey_nge (cd_214 rfl) rfl rfl rfl q11 ?_
    refine ey_aload_n (cd_214 rfl) f0 ?_
    refine ey_getf_r (cd_214 rfl) mt_214 rfl rfl rfl (jhm_gr (q := 79) hb rfl) ?_
    refine ey_sipush (cd_214 rfl) (by decide) ?_
    refine ey_aload_n (cd_214 rfl) f0 ?_
    refine ey_getf_i (z := (m 76 1)) (cd_214 rfl) mt_214 rfl rfl rfl (jhm_gi hb 1) ?_
    refine ey_imul (cd_214 rfl) ?_
    refine ey_iload (cd_214 rfl) f7 ?_
    refine ey_cs (s0 := [jI x7, jI (864 * (m 76 1)), jR (some 79)]) (s1 := [jI (864 * (m 76 1)), jR (some 79)]) (st' := [jI (jd_207 x7), jI (864 * (m 76 1)), jR (some 79)]) (cd_214 rfl) mt_214 mt_207 rfl (by decide) rfl rfl (jsml_s rfl) rfl (mm_Runs.up (d := 1) (by decide) (ok_207 )) ?_
    refine ey_iadd (cd_214 rfl) ?_
    refine ey_iload (cd_214 rfl) f9 ?_
    refine ey_iadd (cd_214 rfl) ?_
    refine ey_iload (cd_214 rfl) f8 ?_
    obtain ⟨m12, e13, e⟩ := jbind e
    refine ey_iast (cd_214 rfl) (jhm_ta hb (by decide) rfl e13) ?_
    refine ey_iinc (cd_214 rfl) mt_214 rfl f9 ?_
    refine ey_goto (cd_214 rfl) rfl ?_
    cases e
    exact K (jup lv 9 (jI (x9 + 1))) f0 f3 f4 f5 f7 (jup_pi (lv := lv) (j := 8) (v := jI (x9 + 1)) (z := x8) f8) rfl
theorem jk_214_l151 {L : Nat} {xs : Nat → Int32} {b : jH} (hb : 152 ≤ b.1) (h6 : b.1 ≤ 1000000) {x3 : Int} {x4 : Int} {x5 : Int} {x7 : Int} {x8 : Int} {x9 : Int} {m : jM} {x : jM} {r : mm_R} (e : jd_214_l151 x3 x4 x5 x7 x8 x9 m = some x) (K : (∀ lv : jL, lv 0 = some (jR (some 76)) → lv 3 = some (jI x3) → lv 4 = some (jI x4) → lv 5 = some (jI x5) → lv 7 = some (jI x7) → ey (mm_xt L xs) 2 214 196 lv [] (jhm b x) r)) : ∀ lv : jL, lv 0 = some (jR (some 76)) → lv 3 = some (jI x3) → lv 4 = some (jI x4) → lv 5 = some (jI x5) → lv 7 = some (jI x7) → lv 8 = some (jI x8) → lv 9 = some (jI x9) → ey (mm_xt L xs) 2 214 151 lv [] (jhm b m) r := by
  unfold jd_214_l151 at e
  exact jlp_ok2 (P := fun s => ∀ lv : jL, lv 0 = some (jR (some 76)) → lv 3 = some (jI x3) → lv 4 = some (jI x4) → lv 5 = some (jI x5) → lv 7 = some (jI x7) → lv 8 = some (jI x8) → lv 9 = some (jI s.1) → ey (mm_xt L xs) 2 214 151 lv [] (jhm b s.2) r) (Q := fun x => (∀ lv : jL, lv 0 = some (jR (some 76)) → lv 3 = some (jI x3) → lv 4 = some (jI x4) → lv 5 = some (jI x5) → lv 7 = some (jI x7) → ey (mm_xt L xs) 2 214 196 lv [] (jhm b x) r)) (fun s q hq hk => jk_214_s151 hb h6 hq hk) jfu _ x e K
set_option maxRecDepth 100000 in
theorem jk_214_b146 {L : Nat} {xs : Nat → Int32} {b : jH} (hb : 152 ≤ b.1) (h6 : b.1 ≤ 1000000) {x3 : Int} {x4 : Int} {x5 : Int} {x7 : Int} {y0 : Int} {m : jM} {o : ((Int × jM) ⊕ jM)} {r : mm_R} (e : jd_214_b146 x3 x4 x5 x7 y0 m = some o) (K : jsm (fun s => (∀ lv : jL, lv 0 = some (jR (some 76)) → lv 3 = some (jI x3) → lv 4 = some (jI x4) → lv 5 = some (jI x5) → lv 7 = some (jI s.1) → ey (mm_xt L xs) 2 214 118 lv [] (jhm b s.2) r)) (fun x => (∀ lv : jL, lv 0 = some (jR (some 76)) → ey (mm_xt L xs) 2 214 202 lv [] (jhm b x) r)) o) : ∀ lv : jL, lv 0 = some (jR (some 76)) → lv 3 = some (jI x3) → lv 4 = some (jI x4) → lv 5 = some (jI x5) → lv 7 = some (jI x7) → ey (mm_xt L xs) 2 214 146 lv [jI y0] (jhm b m) r := by
  intro lv f0 f3 f4 f5 f7
  unfold jd_214_b146 at e
  refine ey_istore (cd_214 rfl) mt_214 rfl ?_
  refine ey_iconst (cd_214 rfl) ?_
  refine ey_istore (cd_214 rfl) mt_214 rfl ?_
  obtain ⟨x14, e15, e⟩ := jbind e
  refine jk_214_l151 hb h6 e15 ?_ (jup (jup lv 8 (jI y0)) 9 (jI 0)) f0 f3 f4 f5 (jup_o rfl (jup_pi (lv := lv) (j := 7) (v := jI y0) (z := x7) f7)) (jup_pi (lv := (jup lv 8 (jI y0))) (j := 8) (v := jI 0) (z := y0) rfl) rfl
  intro lv g0 g3 g4 g5 g7
  refine ey_iinc (cd_214 rfl) mt_214 rfl g7 ?_
  refine ey_goto (cd_214 rfl) rfl ?_
  cases e
  exact K (jup lv 7 (jI (x7 + 1))) g0 g3 g4 g5 rfl
set_option maxRecDepth 100000 in
theorem jk_214_s118 {L : Nat} {xs : Nat → Int32} {b : jH} (hb : 152 ≤ b.1) (h6 : b.1 ≤ 1000000) {x3 : Int} {x4 : Int} {x5 : Int} {x7 : Int} {m : jM} {o : ((Int × jM) ⊕ jM)} {r : mm_R} (e : jd_214_s118 x3 x4 x5 x7 m = some o) (K : jsm (fun s => (∀ lv : jL, lv 0 = some (jR (some 76)) → lv 3 = some (jI x3) → lv 4 = some (jI x4) → lv 5 = some (jI x5) → lv 7 = some (jI s.1) → ey (mm_xt L xs) 2 214 118 lv [] (jhm b s.2) r)) (fun x => (∀ lv : jL, lv 0 = some (jR (some 76)) → ey (mm_xt L xs) 2 214 202 lv [] (jhm b x) r)) o) : ∀ lv : jL, lv 0 = some (jR (some 76)) → lv 3 = some (jI x3) → lv 4 = some (jI x4) → lv 5 = some (jI x5) → lv 7 = some (jI x7) → ey (mm_xt L xs) 2 214 118 lv [] (jhm b m) r := by
  intro lv f0 f3 f4 f5 f7
  unfold jd_214_s118 at e
  refine ey_iload (cd_214 rfl) f7 ?_
  refine ey_iconst (cd_214 rfl) ?_
  by_cases q8 : 3 ≤ (jw x7)
  · rw [if_pos q8] at e
    refine ey_cge (cd_214 rfl) rfl rfl (show jw 3 = 3 from by decide) q8 ?_
    cases e
    exact K lv f0
  · rw [if_neg q8] at e
    refine ey_nge (cd_214 rfl) rfl rfl (show jw 3 = 3 from by decide) q8 ?_
    refine ey_iload (cd_214 rfl) f7 ?_
    have K16 : ∀ lv : jL, lv 0 = some (jR (some 76)) → lv 3 = some (jI x3) → lv 4 = some (jI x4) → lv 5 = some (jI x5) → lv 7 = some (jI x7) → ey (mm_xt L xs) 2 214 146 lv [jI (if (jw x7) = 0 then x3 else (if (jw x7) = 1 then x4 else x5))] (jhm b m) r := by
      intro lv g0 g3 g4 g5 g7
      exact jk_214_b146 hb h6 e K lv g0 g3 g4 g5 g7
    by_cases q17 : (jw x7) = 0
    · refine ey_yne (cd_214 rfl) rfl rfl (fun w => w q17) ?_
      refine ey_iload_n (cd_214 rfl) f3 ?_
      refine ey_goto (cd_214 rfl) rfl ?_
      exact ey_rs (s0 := [jI x3]) (s1 := [jI (if (jw x7) = 0 then x3 else (if (jw x7) = 1 then x4 else x5))]) (by rw [show ((if (jw x7) = 0 then x3 else (if (jw x7) = 1 then x4 else x5)) : Int) = x3 from (if_pos q17)]) (K16 lv f0 f3 f4 f5 f7)
    · refine ey_zne (cd_214 rfl) rfl rfl q17 ?_
      refine ey_iload (cd_214 rfl) f7 ?_
      refine ey_iconst (cd_214 rfl) ?_
      by_cases q18 : (jw x7) = 1
      · refine ey_nne (cd_214 rfl) rfl rfl (show jw 1 = 1 from by decide) (fun w => w q18) ?_
        refine ey_iload (cd_214 rfl) f4 ?_
        refine ey_goto (cd_214 rfl) rfl ?_
        exact ey_rs (s0 := [jI x4]) (s1 := [jI (if (jw x7) = 0 then x3 else (if (jw x7) = 1 then x4 else x5))]) (by rw [show ((if (jw x7) = 0 then x3 else (if (jw x7) = 1 then x4 else x5)) : Int) = x4 from ((if_neg q17).trans (if_pos q18))]) (K16 lv f0 f3 f4 f5 f7)
      · refine ey_cne (cd_214 rfl) rfl rfl (show jw 1 = 1 from by decide) q18 ?_
        refine ey_iload (cd_214 rfl) f5 ?_
        exact ey_rs (s0 := [jI x5]) (s1 := [jI (if (jw x7) = 0 then x3 else (if (jw x7) = 1 then x4 else x5))]) (by rw [show ((if (jw x7) = 0 then x3 else (if (jw x7) = 1 then x4 else x5)) : Int) = x5 from ((if_neg q17).trans (if_neg q18))]) (K16 lv f0 f3 f4 f5 f7)
theorem jk_214_l118 {L : Nat} {xs : Nat → Int32} {b : jH} (hb : 152 ≤ b.1) (h6 : b.1 ≤ 1000000) {x3 : Int} {x4 : Int} {x5 : Int} {x7 : Int} {m : jM} {x : jM} {r : mm_R} (e : jd_214_l118 x3 x4 x5 x7 m = some x) (K : (∀ lv : jL, lv 0 = some (jR (some 76)) → ey (mm_xt L xs) 2 214 202 lv [] (jhm b x) r)) : ∀ lv : jL, lv 0 = some (jR (some 76)) → lv 3 = some (jI x3) → lv 4 = some (jI x4) → lv 5 = some (jI x5) → lv 7 = some (jI x7) → ey (mm_xt L xs) 2 214 118 lv [] (jhm b m) r := by
  unfold jd_214_l118 at e
  exact jlp_ok2 (P := fun s => ∀ lv : jL, lv 0 = some (jR (some 76)) → lv 3 = some (jI x3) → lv 4 = some (jI x4) → lv 5 = some (jI x5) → lv 7 = some (jI s.1) → ey (mm_xt L xs) 2 214 118 lv [] (jhm b s.2) r) (Q := fun x => (∀ lv : jL, lv 0 = some (jR (some 76)) → ey (mm_xt L xs) 2 214 202 lv [] (jhm b x) r)) (fun s q hq hk => jk_214_s118 hb h6 hq hk) jfu _ x e K
set_option maxRecDepth 100000 in
theorem jk_214_b83 {L : Nat} {xs : Nat → Int32} {b : jH} (hb : 152 ≤ b.1) (h6 : b.1 ≤ 1000000) {x1 : Int} {x2 : Int} {x3 : Int} {x4 : Int} {x5 : Int} {y0 : Int} {m : jM} {o : (Int × jM)} (e : jd_214_b83 x1 x2 x3 x4 x5 y0 m = some o) : ∀ lv : jL, lv 0 = some (jR (some 76)) → lv 1 = some (jI x1) → lv 2 = some (jI x2) → lv 3 = some (jI x3) → lv 4 = some (jI x4) → lv 5 = some (jI x5) → ey (mm_xt L xs) 2 214 83 lv [jI y0, jR (some 76)] (jhm b m) (.inl (some (jcv (jI o.1)), jaH (jhm b o.2))) := by
  intro lv f0 f1 f2 f3 f4 f5
  unfold jd_214_b83 at e
  obtain ⟨m1, e2, e⟩ := jbind e
  refine ey_putf_i (cd_214 rfl) mt_214 rfl rfl rfl (jhm_pi' (k := 0) hb e2) ?_
  refine ey_aload_n (cd_214 rfl) f0 ?_
  refine ey_getf_i (z := (m1 76 0)) (cd_214 rfl) mt_214 rfl rfl rfl (jhm_gi hb 0) ?_
  by_cases q3 : (jw (m1 76 0)) ≤ 0
  · rw [if_pos q3] at e
    refine ey_zle (cd_214 rfl) rfl rfl q3 ?_
    refine ey_aload_n (cd_214 rfl) f0 ?_
    refine ey_getf_r (cd_214 rfl) mt_214 rfl rfl rfl (jhm_gr (q := 77) hb rfl) ?_
    refine ey_aload_n (cd_214 rfl) f0 ?_
    refine ey_getf_i (z := (m1 76 1)) (cd_214 rfl) mt_214 rfl rfl rfl (jhm_gi hb 1) ?_
    refine ey_iload_n (cd_214 rfl) f1 ?_
    obtain ⟨m4, e5, e⟩ := jbind e
    refine ey_iast (cd_214 rfl) (jhm_ta hb (by decide) rfl e5) ?_
    refine ey_aload_n (cd_214 rfl) f0 ?_
    refine ey_getf_r (cd_214 rfl) mt_214 rfl rfl rfl (jhm_gr (q := 78) hb rfl) ?_
    refine ey_aload_n (cd_214 rfl) f0 ?_
    refine ey_getf_i (z := (m4 76 1)) (cd_214 rfl) mt_214 rfl rfl rfl (jhm_gi hb 1) ?_
    refine ey_iload_n (cd_214 rfl) f2 ?_
    obtain ⟨m6, e7, e⟩ := jbind e
    refine ey_iast (cd_214 rfl) (jhm_ta hb (by decide) rfl e7) ?_
    refine ey_iconst (cd_214 rfl) ?_
    refine ey_istore (cd_214 rfl) mt_214 rfl ?_
    obtain ⟨x19, e20, e⟩ := jbind e
    refine jk_214_l118 hb h6 e20 ?_ (jup lv 7 (jI 0)) f0 f3 f4 f5 rfl
    intro lv g0
    refine ey_aload_n (cd_214 rfl) g0 ?_
    refine ey_dup (cd_214 rfl) rfl ?_
    refine ey_getf_i (z := (x19 76 1)) (cd_214 rfl) mt_214 rfl rfl rfl (jhm_gi hb 1) ?_
    refine ey_iconst (cd_214 rfl) ?_
    refine ey_iadd (cd_214 rfl) ?_
    obtain ⟨m21, e22, e⟩ := jbind e
    refine ey_putf_i (cd_214 rfl) mt_214 rfl rfl rfl (jhm_pi' (k := 1) hb e22) ?_
    refine ey_aload_n (cd_214 rfl) g0 ?_
    refine ey_getf_i (z := (m21 76 1)) (cd_214 rfl) mt_214 rfl rfl rfl (jhm_gi hb 1) ?_
    refine ey_iconst (cd_214 rfl) ?_
    refine ey_isub (cd_214 rfl) ?_
    cases e
    exact ey_reti (cd_214 rfl) mt_214 rfl
  · rw [if_neg q3] at e
    refine ey_yle (cd_214 rfl) rfl rfl q3 ?_
    refine ey_iconst (cd_214 rfl) ?_
    cases e
    exact ey_reti (cd_214 rfl) mt_214 rfl
set_option maxRecDepth 100000 in
theorem jk_214_b57 {L : Nat} {xs : Nat → Int32} {b : jH} (hb : 152 ≤ b.1) (h6 : b.1 ≤ 1000000) {x1 : Int} {x2 : Int} {x3 : Int} {x4 : Int} {x5 : Int} {y0 : Int} {m : jM} {o : (Int × jM)} (e : jd_214_b57 x1 x2 x3 x4 x5 y0 m = some o) : ∀ lv : jL, lv 0 = some (jR (some 76)) → lv 1 = some (jI x1) → lv 2 = some (jI x2) → lv 3 = some (jI x3) → lv 4 = some (jI x4) → lv 5 = some (jI x5) → ey (mm_xt L xs) 2 214 57 lv [jI y0] (jhm b m) (.inl (some (jcv (jI o.1)), jaH (jhm b o.2))) := by
  intro lv f0 f1 f2 f3 f4 f5
  unfold jd_214_b57 at e
  refine ey_istore (cd_214 rfl) mt_214 rfl ?_
  refine ey_aload_n (cd_214 rfl) f0 ?_
  refine ey_iload (cd_214 rfl) rfl ?_
  have K23 : ∀ lv : jL, lv 0 = some (jR (some 76)) → lv 1 = some (jI x1) → lv 2 = some (jI x2) → lv 3 = some (jI x3) → lv 4 = some (jI x4) → lv 5 = some (jI x5) → ey (mm_xt L xs) 2 214 83 lv [jI (if (jw y0) = 0 then 1 else (if (jw (m 76 1)) = 60 then 2 else 0)), jR (some 76)] (jhm b m) (.inl (some (jcv (jI o.1)), jaH (jhm b o.2))) := by
    intro lv g0 g1 g2 g3 g4 g5
    exact jk_214_b83 hb h6 e lv g0 g1 g2 g3 g4 g5
  by_cases q24 : (jw y0) = 0
  · refine ey_yne (cd_214 rfl) rfl rfl (fun w => w q24) ?_
    refine ey_iconst (cd_214 rfl) ?_
    refine ey_goto (cd_214 rfl) rfl ?_
    exact ey_rs (s0 := [jI 1, jR (some 76)]) (s1 := [jI (if (jw y0) = 0 then 1 else (if (jw (m 76 1)) = 60 then 2 else 0)), jR (some 76)]) (by rw [show ((if (jw y0) = 0 then 1 else (if (jw (m 76 1)) = 60 then 2 else 0)) : Int) = 1 from (if_pos q24)]) (K23 (jup lv 6 (jI y0)) f0 f1 f2 f3 f4 (jup_pi (lv := lv) (j := 5) (v := jI y0) (z := x5) f5))
  · refine ey_zne (cd_214 rfl) rfl rfl q24 ?_
    refine ey_aload_n (cd_214 rfl) f0 ?_
    refine ey_getf_i (z := (m 76 1)) (cd_214 rfl) mt_214 rfl rfl rfl (jhm_gi hb 1) ?_
    refine ey_bipush (cd_214 rfl) (by decide) ?_
    by_cases q25 : (jw (m 76 1)) = 60
    · refine ey_nne (cd_214 rfl) rfl rfl (show jw 60 = 60 from by decide) (fun w => w q25) ?_
      refine ey_iconst (cd_214 rfl) ?_
      refine ey_goto (cd_214 rfl) rfl ?_
      exact ey_rs (s0 := [jI 2, jR (some 76)]) (s1 := [jI (if (jw y0) = 0 then 1 else (if (jw (m 76 1)) = 60 then 2 else 0)), jR (some 76)]) (by rw [show ((if (jw y0) = 0 then 1 else (if (jw (m 76 1)) = 60 then 2 else 0)) : Int) = 2 from ((if_neg q24).trans (if_pos q25))]) (K23 (jup lv 6 (jI y0)) f0 f1 f2 f3 f4 (jup_pi (lv := lv) (j := 5) (v := jI y0) (z := x5) f5))
    · refine ey_cne (cd_214 rfl) rfl rfl (show jw 60 = 60 from by decide) q25 ?_
      refine ey_iconst (cd_214 rfl) ?_
      exact ey_rs (s0 := [jI 0, jR (some 76)]) (s1 := [jI (if (jw y0) = 0 then 1 else (if (jw (m 76 1)) = 60 then 2 else 0)), jR (some 76)]) (by rw [show ((if (jw y0) = 0 then 1 else (if (jw (m 76 1)) = 60 then 2 else 0)) : Int) = 0 from ((if_neg q24).trans (if_neg q25))]) (K23 (jup lv 6 (jI y0)) f0 f1 f2 f3 f4 (jup_pi (lv := lv) (j := 5) (v := jI y0) (z := x5) f5))
set_option maxRecDepth 100000 in
theorem ok_214 {L : Nat} {xs : Nat → Int32} {b : jH} (hb : 152 ≤ b.1) (h6 : b.1 ≤ 1000000) {p0 : Int} {p1 : Int} {p2 : Int} {p3 : Int} {p4 : Int} {m : jM} {o : (Int × jM)} (e : jd_214 p0 p1 p2 p3 p4 m = some o) : mm_Runs (mm_xt L xs) 3 214 ([jR (some 76), jI p0, jI p1, jI p2, jI p3, jI p4].map jcv) (jaH (jhm b m)) (.inl (some (jcv (jI o.1)), jaH (jhm b o.2))) := by
  refine ey_run0 _ mt_214 (jsl_s rfl) ?_
  unfold jd_214 at e
  refine ey_iload_n (cd_214 rfl) rfl ?_
  refine ey_cs (s0 := [jI p0]) (s1 := []) (st' := [jI (jd_208 p0)]) (cd_214 rfl) mt_214 mt_208 rfl (by decide) rfl rfl (jsml_s rfl) rfl (mm_Runs.up (d := 1) (by decide) (ok_208 )) ?_
  have K26 : ∀ lv : jL, lv 0 = some (jR (some 76)) → lv 1 = some (jI p0) → lv 2 = some (jI p1) → lv 3 = some (jI p2) → lv 4 = some (jI p3) → lv 5 = some (jI p4) → ey (mm_xt L xs) 2 214 57 lv [jI (if (jw (jd_208 p0)) = 0 then 0 else (if (jw (jd_208 p1)) = 0 then 0 else (if (jw (jd_204 (jw p2) 0 255)) = 0 then 0 else (if (jw (jd_204 (jw p3) 0 255)) = 0 then 0 else (if (jw (jd_204 (jw p4) 0 255)) = 0 then 0 else 1)))))] (jhm b m) (.inl (some (jcv (jI o.1)), jaH (jhm b o.2))) := by
    intro lv g0 g1 g2 g3 g4 g5
    exact jk_214_b57 hb h6 e lv g0 g1 g2 g3 g4 g5
  by_cases q27 : (jw (jd_208 p0)) = 0
  · refine ey_zeq (cd_214 rfl) rfl rfl q27 ?_
    refine ey_iconst (cd_214 rfl) ?_
    exact ey_rs (s0 := [jI 0]) (s1 := [jI (if (jw (jd_208 p0)) = 0 then 0 else (if (jw (jd_208 p1)) = 0 then 0 else (if (jw (jd_204 (jw p2) 0 255)) = 0 then 0 else (if (jw (jd_204 (jw p3) 0 255)) = 0 then 0 else (if (jw (jd_204 (jw p4) 0 255)) = 0 then 0 else 1)))))]) (by rw [show ((if (jw (jd_208 p0)) = 0 then 0 else (if (jw (jd_208 p1)) = 0 then 0 else (if (jw (jd_204 (jw p2) 0 255)) = 0 then 0 else (if (jw (jd_204 (jw p3) 0 255)) = 0 then 0 else (if (jw (jd_204 (jw p4) 0 255)) = 0 then 0 else 1))))) : Int) = 0 from (if_pos q27)]) (K26 (jlf (jla 0 [jR (some 76), jI p0, jI p1, jI p2, jI p3, jI p4])) rfl rfl rfl rfl rfl rfl)
  · refine ey_yeq (cd_214 rfl) rfl rfl q27 ?_
    refine ey_iload_n (cd_214 rfl) rfl ?_
    refine ey_cs (s0 := [jI p1]) (s1 := []) (st' := [jI (jd_208 p1)]) (cd_214 rfl) mt_214 mt_208 rfl (by decide) rfl rfl (jsml_s rfl) rfl (mm_Runs.up (d := 1) (by decide) (ok_208 )) ?_
    by_cases q28 : (jw (jd_208 p1)) = 0
    · refine ey_zeq (cd_214 rfl) rfl rfl q28 ?_
      refine ey_iconst (cd_214 rfl) ?_
      exact ey_rs (s0 := [jI 0]) (s1 := [jI (if (jw (jd_208 p0)) = 0 then 0 else (if (jw (jd_208 p1)) = 0 then 0 else (if (jw (jd_204 (jw p2) 0 255)) = 0 then 0 else (if (jw (jd_204 (jw p3) 0 255)) = 0 then 0 else (if (jw (jd_204 (jw p4) 0 255)) = 0 then 0 else 1)))))]) (by rw [show ((if (jw (jd_208 p0)) = 0 then 0 else (if (jw (jd_208 p1)) = 0 then 0 else (if (jw (jd_204 (jw p2) 0 255)) = 0 then 0 else (if (jw (jd_204 (jw p3) 0 255)) = 0 then 0 else (if (jw (jd_204 (jw p4) 0 255)) = 0 then 0 else 1))))) : Int) = 0 from ((if_neg q27).trans (if_pos q28))]) (K26 (jlf (jla 0 [jR (some 76), jI p0, jI p1, jI p2, jI p3, jI p4])) rfl rfl rfl rfl rfl rfl)
    · refine ey_yeq (cd_214 rfl) rfl rfl q28 ?_
      refine ey_iload_n (cd_214 rfl) rfl ?_
      refine ey_i2l (cd_214 rfl) ?_
      refine ey_lconst0 (cd_214 rfl) ?_
      refine ey_ldc2 (z := 255) (cd_214 rfl) mt_214 rfl (by decide) ?_
      refine ey_cs (s0 := [jJ 255, jJ 0, jJ (jw p2)]) (s1 := []) (st' := [jI (jd_204 (jw p2) 0 255)]) (cd_214 rfl) mt_214 mt_204 rfl (by decide) rfl rfl (jsml_s rfl) rfl (mm_Runs.up (d := 1) (by decide) (ok_204 )) ?_
      by_cases q29 : (jw (jd_204 (jw p2) 0 255)) = 0
      · refine ey_zeq (cd_214 rfl) rfl rfl q29 ?_
        refine ey_iconst (cd_214 rfl) ?_
        exact ey_rs (s0 := [jI 0]) (s1 := [jI (if (jw (jd_208 p0)) = 0 then 0 else (if (jw (jd_208 p1)) = 0 then 0 else (if (jw (jd_204 (jw p2) 0 255)) = 0 then 0 else (if (jw (jd_204 (jw p3) 0 255)) = 0 then 0 else (if (jw (jd_204 (jw p4) 0 255)) = 0 then 0 else 1)))))]) (by rw [show ((if (jw (jd_208 p0)) = 0 then 0 else (if (jw (jd_208 p1)) = 0 then 0 else (if (jw (jd_204 (jw p2) 0 255)) = 0 then 0 else (if (jw (jd_204 (jw p3) 0 255)) = 0 then 0 else (if (jw (jd_204 (jw p4) 0 255)) = 0 then 0 else 1))))) : Int) = 0 from ((if_neg q27).trans ((if_neg q28).trans (if_pos q29)))]) (K26 (jlf (jla 0 [jR (some 76), jI p0, jI p1, jI p2, jI p3, jI p4])) rfl rfl rfl rfl rfl rfl)
      · refine ey_yeq (cd_214 rfl) rfl rfl q29 ?_
        refine ey_iload (cd_214 rfl) rfl ?_
        refine ey_i2l (cd_214 rfl) ?_
        refine ey_lconst0 (cd_214 rfl) ?_
        refine ey_ldc2 (z := 255) (cd_214 rfl) mt_214 rfl (by decide) ?_
        refine ey_cs (s0 := [jJ 255, jJ 0, jJ (jw p3)]) (s1 := []) (st' := [jI (jd_204 (jw p3) 0 255)]) (cd_214 rfl) mt_214 mt_204 rfl (by decide) rfl rfl (jsml_s rfl) rfl (mm_Runs.up (d := 1) (by decide) (ok_204 )) ?_
        by_cases q30 : (jw (jd_204 (jw p3) 0 255)) = 0
        · refine ey_zeq (cd_214 rfl) rfl rfl q30 ?_
          refine ey_iconst (cd_214 rfl) ?_
          exact ey_rs (s0 := [jI 0]) (s1 := [jI (if (jw (jd_208 p0)) = 0 then 0 else (if (jw (jd_208 p1)) = 0 then 0 else (if (jw (jd_204 (jw p2) 0 255)) = 0 then 0 else (if (jw (jd_204 (jw p3) 0 255)) = 0 then 0 else (if (jw (jd_204 (jw p4) 0 255)) = 0 then 0 else 1)))))]) (by rw [show ((if (jw (jd_208 p0)) = 0 then 0 else (if (jw (jd_208 p1)) = 0 then 0 else (if (jw (jd_204 (jw p2) 0 255)) = 0 then 0 else (if (jw (jd_204 (jw p3) 0 255)) = 0 then 0 else (if (jw (jd_204 (jw p4) 0 255)) = 0 then 0 else 1))))) : Int) = 0 from ((if_neg q27).trans ((if_neg q28).trans ((if_neg q29).trans (if_pos q30))))]) (K26 (jlf (jla 0 [jR (some 76), jI p0, jI p1, jI p2, jI p3, jI p4])) rfl rfl rfl rfl rfl rfl)
        · refine ey_yeq (cd_214 rfl) rfl rfl q30 ?_
          refine ey_iload (cd_214 rfl) rfl ?_
          refine ey_i2l (cd_214 rfl) ?_
          refine ey_lconst0 (cd_214 rfl) ?_
          refine ey_ldc2 (z := 255) (cd_214 rfl) mt_214 rfl (by decide) ?_
          refine ey_cs (s0 := [jJ 255, jJ 0, jJ (jw p4)]) (s1 := []) (st' := [jI (jd_204 (jw p4) 0 255)]) (cd_214 rfl) mt_214 mt_204 rfl (by decide) rfl rfl (jsml_s rfl) rfl (mm_Runs.up (d := 1) (by decide) (ok_204 )) ?_
          by_cases q31 : (jw (jd_204 (jw p4) 0 255)) = 0
          · refine ey_zeq (cd_214 rfl) rfl rfl q31 ?_
            refine ey_iconst (cd_214 rfl) ?_
            exact ey_rs (s0 := [jI 0]) (s1 := [jI (if (jw (jd_208 p0)) = 0 then 0 else (if (jw (jd_208 p1)) = 0 then 0 else (if (jw (jd_204 (jw p2) 0 255)) = 0 then 0 else (if (jw (jd_204 (jw p3) 0 255)) = 0 then 0 else (if (jw (jd_204 (jw p4) 0 255)) = 0 then 0 else 1)))))]) (by rw [show ((if (jw (jd_208 p0)) = 0 then 0 else (if (jw (jd_208 p1)) = 0 then 0 else (if (jw (jd_204 (jw p2) 0 255)) = 0 then 0 else (if (jw (jd_204 (jw p3) 0 255)) = 0 then 0 else (if (jw (jd_204 (jw p4) 0 255)) = 0 then 0 else 1))))) : Int) = 0 from ((if_neg q27).trans ((if_neg q28).trans ((if_neg q29).trans ((if_neg q30).trans (if_pos q31)))))]) (K26 (jlf (jla 0 [jR (some 76), jI p0, jI p1, jI p2, jI p3, jI p4])) rfl rfl rfl rfl rfl rfl)
          · refine ey_yeq (cd_214 rfl) rfl rfl q31 ?_
            refine ey_iconst (cd_214 rfl) ?_
            refine ey_goto (cd_214 rfl) rfl ?_
            exact ey_rs (s0 := [jI 1]) (s1 := [jI (if (jw (jd_208 p0)) = 0 then 0 else (if (jw (jd_208 p1)) = 0 then 0 else (if (jw (jd_204 (jw p2) 0 255)) = 0 then 0 else (if (jw (jd_204 (jw p3) 0 255)) = 0 then 0 else (if (jw (jd_204 (jw p4) 0 255)) = 0 then 0 else 1)))))]) (by rw [show ((if (jw (jd_208 p0)) = 0 then 0 else (if (jw (jd_208 p1)) = 0 then 0 else (if (jw (jd_204 (jw p2) 0 255)) = 0 then 0 else (if (jw (jd_204 (jw p3) 0 255)) = 0 then 0 else (if (jw (jd_204 (jw p4) 0 255)) = 0 then 0 else 1))))) : Int) = 1 from ((if_neg q27).trans ((if_neg q28).trans ((if_neg q29).trans ((if_neg q30).trans (if_neg q31)))))]) (K26 (jlf (jla 0 [jR (some 76), jI p0, jI p1, jI p2, jI p3, jI p4])) rfl rfl rfl rfl rfl rfl)
theorem cd_215 {pc : Nat} {i : Instr × Nat} (h : mm_lk mm_c215 pc = some i) : mm_cd 215 pc = some i := h
theorem mt_215 : mm_MT 215 = (12, 11, some .int, 7, 0, []) := rfl
set_option maxRecDepth 100000 in
theorem jk_215_b162 {L : Nat} {xs : Nat → Int32} {b : jH} (hb : 152 ≤ b.1) (h6 : b.1 ≤ 1000000) {x1 : Int} {x2 : Int} {x3 : Int} {x4 : Int} {x5 : Int} {x6 : Int} {x7 : Int} {x8 : Int} {x9 : Int} {x10 : Int} {m : jM} {o : ((Int × Int × jM) ⊕ (Int × jM))} {r : mm_R} (e : jd_215_b162 x1 x2 x3 x4 x5 x6 x7 x8 x9 x10 m = some o) (K : jsm (fun s => (∀ lv : jL, lv 0 = some (jR (some 76)) → lv 1 = some (jI x1) → lv 2 = some (jI x2) → lv 3 = some (jI x3) → lv 4 = some (jI x4) → lv 5 = some (jI x5) → lv 6 = some (jI x6) → lv 7 = some (jI x7) → lv 8 = some (jI s.1) → lv 9 = some (jI x9) → lv 10 = some (jI s.2.1) → ey (mm_xt L xs) 2 215 84 lv [] (jhm b s.2.2) r)) (fun x => (∀ lv : jL, lv 0 = some (jR (some 76)) → lv 1 = some (jI x1) → lv 2 = some (jI x2) → lv 3 = some (jI x3) → lv 4 = some (jI x4) → lv 5 = some (jI x5) → lv 6 = some (jI x6) → lv 7 = some (jI x7) → lv 8 = some (jI x.1) → lv 9 = some (jI x9) → ey (mm_xt L xs) 2 215 168 lv [] (jhm b x.2) r)) o) : ∀ lv : jL, lv 0 = some (jR (some 76)) → lv 1 = some (jI x1) → lv 2 = some (jI x2) → lv 3 = some (jI x3) → lv 4 = some (jI x4) → lv 5 = some (jI x5) → lv 6 = some (jI x6) → lv 7 = some (jI x7) → lv 8 = some (jI x8) → lv 9 = some (jI x9) → lv 10 = some (jI x10) → ey (mm_xt L xs) 2 215 162 lv [] (jhm b m) r := by
  intro lv f0 f1 f2 f3 f4 f5 f6 f7 f8 f9 f10
  unfold jd_215_b162 at e
  refine ey_iinc (cd_215 rfl) mt_215 rfl f10 ?_
  refine ey_goto (cd_215 rfl) rfl ?_
  cases e
  exact K (jup lv 10 (jI (x10 + 1))) f0 f1 f2 f3 f4 f5 f6 f7 f8 (jup_pi (lv := lv) (j := 9) (v := jI (x10 + 1)) (z := x9) f9) rfl
set_option maxRecDepth 100000 in
theorem jk_215_s84 {L : Nat} {xs : Nat → Int32} {b : jH} (hb : 152 ≤ b.1) (h6 : b.1 ≤ 1000000) {x1 : Int} {x2 : Int} {x3 : Int} {x4 : Int} {x5 : Int} {x6 : Int} {x7 : Int} {x9 : Int} {x8 : Int} {x10 : Int} {m : jM} {o : ((Int × Int × jM) ⊕ (Int × jM))} {r : mm_R} (e : jd_215_s84 x1 x2 x3 x4 x5 x6 x7 x9 x8 x10 m = some o) (K : jsm (fun s => (∀ lv : jL, lv 0 = some (jR (some 76)) → lv 1 = some (jI x1) → lv 2 = some (jI x2) → lv 3 = some (jI x3) → lv 4 = some (jI x4) → lv 5 = some (jI x5) → lv 6 = some (jI x6) → lv 7 = some (jI x7) → lv 8 = some (jI s.1) → lv 9 = some (jI x9) → lv 10 = some (jI s.2.1) → ey (mm_xt L xs) 2 215 84 lv [] (jhm b s.2.2) r)) (fun x => (∀ lv : jL, lv 0 = some (jR (some 76)) → lv 1 = some (jI x1) → lv 2 = some (jI x2) → lv 3 = some (jI x3) → lv 4 = some (jI x4) → lv 5 = some (jI x5) → lv 6 = some (jI x6) → lv 7 = some (jI x7) → lv 8 = some (jI x.1) → lv 9 = some (jI x9) → ey (mm_xt L xs) 2 215 168 lv [] (jhm b x.2) r)) o) : ∀ lv : jL, lv 0 = some (jR (some 76)) → lv 1 = some (jI x1) → lv 2 = some (jI x2) → lv 3 = some (jI x3) → lv 4 = some (jI x4) → lv 5 = some (jI x5) → lv 6 = some (jI x6) → lv 7 = some (jI x7) → lv 8 = some (jI x8) → lv 9 = some (jI x9) → lv 10 = some (jI x10) → ey (mm_xt L xs) 2 215 84 lv [] (jhm b m) r := by
  intro lv f0 f1 f2 f3 f4 f5 f6 f7 f8 f9 f10
  unfold jd_215_s84 at e
  refine ey_iload (cd_215 rfl) f10 ?_
  refine ey_aload_n (cd_215 rfl) f0 ?_
  refine ey_getf_r (cd_215 rfl) mt_215 rfl rfl rfl (jhm_gr (q := 77) hb rfl) ?_
  refine ey_iload_n (cd_215 rfl) f1 ?_
  obtain ⟨v7, e8, e⟩ := jbind e
  refine ey_iald (cd_215 rfl) (jhm_ai hb h6 (by decide) rfl e8) ?_
  refine ey_iload_n (cd_215 rfl) f2 ?_
  refine ey_cs (s0 := [jI x2, jI v7, jI x10]) (s1 := [jI x10]) (st' := [jI (jd_206 v7 x2), jI x10]) (cd_215 rfl) mt_215 mt_206 rfl (by decide) rfl rfl (jsml_s rfl) rfl (mm_Runs.up (d := 1) (by decide) (ok_206 )) ?_
  by_cases q9 : (jw (jd_206 v7 x2)) ≤ (jw x10)
  · rw [if_pos q9] at e
    refine ey_cge (cd_215 rfl) rfl rfl rfl q9 ?_
    cases e
    exact K lv f0 f1 f2 f3 f4 f5 f6 f7 f8 f9
  · rw [if_neg q9] at e
    refine ey_nge (cd_215 rfl) rfl rfl rfl q9 ?_
    refine ey_iload (cd_215 rfl) f10 ?_
    refine ey_iload_n (cd_215 rfl) f3 ?_
    by_cases q10 : (jw x10) < (jw x3)
    · rw [if_pos q10] at e
      refine ey_clt (cd_215 rfl) rfl rfl rfl q10 ?_
      exact jk_215_b162 hb h6 e K lv f0 f1 f2 f3 f4 f5 f6 f7 f8 f9 f10
    · rw [if_neg q10] at e
      refine ey_nlt (cd_215 rfl) rfl rfl rfl q10 ?_
      refine ey_iload (cd_215 rfl) f10 ?_
      refine ey_i2l (cd_215 rfl) ?_
      refine ey_iload_n (cd_215 rfl) f3 ?_
      refine ey_i2l (cd_215 rfl) ?_
      refine ey_iload (cd_215 rfl) f5 ?_
      refine ey_i2l (cd_215 rfl) ?_
      refine ey_ladd (cd_215 rfl) ?_
      refine ey_lcmp (cd_215 rfl) ?_
      by_cases q11 : (jwl ((jw x3) + (jw x5))) ≤ (jw x10)
      · rw [if_pos q11] at e
        refine ey_zge (cd_215 rfl) rfl rfl ((jlc_ge (jwl_jw _) rfl).mpr q11) ?_
        exact jk_215_b162 hb h6 e K lv f0 f1 f2 f3 f4 f5 f6 f7 f8 f9 f10
      · rw [if_neg q11] at e
        refine ey_yge (cd_215 rfl) rfl rfl (fun w => q11 ((jlc_ge (jwl_jw _) rfl).mp w)) ?_
        refine ey_iload (cd_215 rfl) f9 ?_
        refine ey_iload (cd_215 rfl) f4 ?_
        by_cases q12 : (jw x9) < (jw x4)
        · rw [if_pos q12] at e
          refine ey_clt (cd_215 rfl) rfl rfl rfl q12 ?_
          exact jk_215_b162 hb h6 e K lv f0 f1 f2 f3 f4 f5 f6 f7 f8 f9 f10
        · rw [if_neg q12] at e
          refine ey_nlt (cd_215 rfl) rfl rfl rfl q12 ?_
          refine ey_iload (cd_215 rfl) f9 ?_
          refine ey_i2l (cd_215 rfl) ?_
          refine ey_iload (cd_215 rfl) f4 ?_
          refine ey_i2l (cd_215 rfl) ?_
          refine ey_iload (cd_215 rfl) f6 ?_
          refine ey_i2l (cd_215 rfl) ?_
          refine ey_ladd (cd_215 rfl) ?_
          refine ey_lcmp (cd_215 rfl) ?_
          by_cases q13 : (jw x9) < (jwl ((jw x4) + (jw x6)))
          · rw [if_pos q13] at e
            refine ey_zlt (cd_215 rfl) rfl rfl ((jlc_lt (jwl_jw _) rfl).mpr q13) ?_
            refine ey_aload_n (cd_215 rfl) f0 ?_
            refine ey_getf_r (cd_215 rfl) mt_215 rfl rfl rfl (jhm_gr (q := 79) hb rfl) ?_
            refine ey_aload_n (cd_215 rfl) f0 ?_
            refine ey_iload_n (cd_215 rfl) f1 ?_
            refine ey_iload_n (cd_215 rfl) f2 ?_
            refine ey_iload (cd_215 rfl) f10 ?_
            refine ey_iload (cd_215 rfl) f9 ?_
            obtain ⟨v14, e15, e⟩ := jbind e
            refine ey_cv (s0 := [jI x9, jI x10, jI x2, jI x1, jR (some 76), jR (some 79)]) (s1 := [jR (some 79)]) (st' := [jI v14, jR (some 79)]) (cd_215 rfl) mt_215 mt_212 rfl rfl rfl (jhm_is hb) rfl (jsml_s rfl) rfl (ok_212 hb h6 e15) ?_
            refine ey_iload (cd_215 rfl) f7 ?_
            obtain ⟨m16, e17, e⟩ := jbind e
            refine ey_iast (cd_215 rfl) (jhm_ta hb (by decide) rfl e17) ?_
            refine ey_iinc (cd_215 rfl) mt_215 rfl f8 ?_
            exact jk_215_b162 hb h6 e K (jup lv 8 (jI (x8 + 1))) f0 f1 f2 f3 f4 f5 f6 (jup_pi (lv := lv) (j := 7) (v := jI (x8 + 1)) (z := x7) f7) rfl f9 f10
          · rw [if_neg q13] at e
            refine ey_ylt (cd_215 rfl) rfl rfl (fun w => q13 ((jlc_lt (jwl_jw _) rfl).mp w)) ?_
            refine ey_goto (cd_215 rfl) rfl ?_
            exact jk_215_b162 hb h6 e K lv f0 f1 f2 f3 f4 f5 f6 f7 f8 f9 f10
theorem jk_215_l84 {L : Nat} {xs : Nat → Int32} {b : jH} (hb : 152 ≤ b.1) (h6 : b.1 ≤ 1000000) {x1 : Int} {x2 : Int} {x3 : Int} {x4 : Int} {x5 : Int} {x6 : Int} {x7 : Int} {x9 : Int} {x8 : Int} {x10 : Int} {m : jM} {x : (Int × jM)} {r : mm_R} (e : jd_215_l84 x1 x2 x3 x4 x5 x6 x7 x9 x8 x10 m = some x) (K : (∀ lv : jL, lv 0 = some (jR (some 76)) → lv 1 = some (jI x1) → lv 2 = some (jI x2) → lv 3 = some (jI x3) → lv 4 = some (jI x4) → lv 5 = some (jI x5) → lv 6 = some (jI x6) → lv 7 = some (jI x7) → lv 8 = some (jI x.1) → lv 9 = some (jI x9) → ey (mm_xt L xs) 2 215 168 lv [] (jhm b x.2) r)) : ∀ lv : jL, lv 0 = some (jR (some 76)) → lv 1 = some (jI x1) → lv 2 = some (jI x2) → lv 3 = some (jI x3) → lv 4 = some (jI x4) → lv 5 = some (jI x5) → lv 6 = some (jI x6) → lv 7 = some (jI x7) → lv 8 = some (jI x8) → lv 9 = some (jI x9) → lv 10 = some (jI x10) → ey (mm_xt L xs) 2 215 84 lv [] (jhm b m) r := by
  unfold jd_215_l84 at e
  exact jlp_ok2 (P := fun s => ∀ lv : jL, lv 0 = some (jR (some 76)) → lv 1 = some (jI x1) → lv 2 = some (jI x2) → lv 3 = some (jI x3) → lv 4 = some (jI x4) → lv 5 = some (jI x5) → lv 6 = some (jI x6) → lv 7 = some (jI x7) → lv 8 = some (jI s.1) → lv 9 = some (jI x9) → lv 10 = some (jI s.2.1) → ey (mm_xt L xs) 2 215 84 lv [] (jhm b s.2.2) r) (Q := fun x => (∀ lv : jL, lv 0 = some (jR (some 76)) → lv 1 = some (jI x1) → lv 2 = some (jI x2) → lv 3 = some (jI x3) → lv 4 = some (jI x4) → lv 5 = some (jI x5) → lv 6 = some (jI x6) → lv 7 = some (jI x7) → lv 8 = some (jI x.1) → lv 9 = some (jI x9) → ey (mm_xt L xs) 2 215 168 lv [] (jhm b x.2) r)) (fun s q hq hk => jk_215_s84 hb h6 hq hk) jfu _ x e K
set_option maxRecDepth 100000 in
theorem jk_215_s66 {L : Nat} {xs : Nat → Int32} {b : jH} (hb : 152 ≤ b.1) (h6 : b.1 ≤ 1000000) {x1 : Int} {x2 : Int} {x3 : Int} {x4 : Int} {x5 : Int} {x6 : Int} {x7 : Int} {x8 : Int} {x9 : Int} {m : jM} {o : ((Int × Int × jM) ⊕ (Int × jM))} {r : mm_R} (e : jd_215_s66 x1 x2 x3 x4 x5 x6 x7 x8 x9 m = some o) (K : jsm (fun s => (∀ lv : jL, lv 0 = some (jR (some 76)) → lv 1 = some (jI x1) → lv 2 = some (jI x2) → lv 3 = some (jI x3) → lv 4 = some (jI x4) → lv 5 = some (jI x5) → lv 6 = some (jI x6) → lv 7 = some (jI x7) → lv 8 = some (jI s.1) → lv 9 = some (jI s.2.1) → ey (mm_xt L xs) 2 215 66 lv [] (jhm b s.2.2) r)) (fun x => (∀ lv : jL, lv 8 = some (jI x.1) → ey (mm_xt L xs) 2 215 174 lv [] (jhm b x.2) r)) o) : ∀ lv : jL, lv 0 = some (jR (some 76)) → lv 1 = some (jI x1) → lv 2 = some (jI x2) → lv 3 = some (jI x3) → lv 4 = some (jI x4) → lv 5 = some (jI x5) → lv 6 = some (jI x6) → lv 7 = some (jI x7) → lv 8 = some (jI x8) → lv 9 = some (jI x9) → ey (mm_xt L xs) 2 215 66 lv [] (jhm b m) r := by
  intro lv f0 f1 f2 f3 f4 f5 f6 f7 f8 f9
  unfold jd_215_s66 at e
  refine ey_iload (cd_215 rfl) f9 ?_
  refine ey_aload_n (cd_215 rfl) f0 ?_
  refine ey_getf_r (cd_215 rfl) mt_215 rfl rfl rfl (jhm_gr (q := 78) hb rfl) ?_
  refine ey_iload_n (cd_215 rfl) f1 ?_
  obtain ⟨v4, e5, e⟩ := jbind e
  refine ey_iald (cd_215 rfl) (jhm_ai hb h6 (by decide) rfl e5) ?_
  refine ey_iload_n (cd_215 rfl) f2 ?_
  refine ey_cs (s0 := [jI x2, jI v4, jI x9]) (s1 := [jI x9]) (st' := [jI (jd_206 v4 x2), jI x9]) (cd_215 rfl) mt_215 mt_206 rfl (by decide) rfl rfl (jsml_s rfl) rfl (mm_Runs.up (d := 1) (by decide) (ok_206 )) ?_
  by_cases q6 : (jw (jd_206 v4 x2)) ≤ (jw x9)
  · rw [if_pos q6] at e
    refine ey_cge (cd_215 rfl) rfl rfl rfl q6 ?_
    cases e
    exact K lv f8
  · rw [if_neg q6] at e
    refine ey_nge (cd_215 rfl) rfl rfl rfl q6 ?_
    refine ey_iconst (cd_215 rfl) ?_
    refine ey_istore (cd_215 rfl) mt_215 rfl ?_
    obtain ⟨x18, e19, e⟩ := jbind e
    refine jk_215_l84 hb h6 e19 ?_ (jup lv 10 (jI 0)) f0 f1 f2 f3 f4 f5 f6 f7 f8 (jup_pi (lv := lv) (j := 9) (v := jI 0) (z := x9) f9) rfl
    intro lv g0 g1 g2 g3 g4 g5 g6 g7 g8 g9
    refine ey_iinc (cd_215 rfl) mt_215 rfl g9 ?_
    refine ey_goto (cd_215 rfl) rfl ?_
    cases e
    exact K (jup lv 9 (jI (x9 + 1))) g0 g1 g2 g3 g4 g5 g6 g7 (jup_pi (lv := lv) (j := 8) (v := jI (x9 + 1)) (z := x18.1) g8) rfl
theorem jk_215_l66 {L : Nat} {xs : Nat → Int32} {b : jH} (hb : 152 ≤ b.1) (h6 : b.1 ≤ 1000000) {x1 : Int} {x2 : Int} {x3 : Int} {x4 : Int} {x5 : Int} {x6 : Int} {x7 : Int} {x8 : Int} {x9 : Int} {m : jM} {x : (Int × jM)} {r : mm_R} (e : jd_215_l66 x1 x2 x3 x4 x5 x6 x7 x8 x9 m = some x) (K : (∀ lv : jL, lv 8 = some (jI x.1) → ey (mm_xt L xs) 2 215 174 lv [] (jhm b x.2) r)) : ∀ lv : jL, lv 0 = some (jR (some 76)) → lv 1 = some (jI x1) → lv 2 = some (jI x2) → lv 3 = some (jI x3) → lv 4 = some (jI x4) → lv 5 = some (jI x5) → lv 6 = some (jI x6) → lv 7 = some (jI x7) → lv 8 = some (jI x8) → lv 9 = some (jI x9) → ey (mm_xt L xs) 2 215 66 lv [] (jhm b m) r := by
  unfold jd_215_l66 at e
  exact jlp_ok2 (P := fun s => ∀ lv : jL, lv 0 = some (jR (some 76)) → lv 1 = some (jI x1) → lv 2 = some (jI x2) → lv 3 = some (jI x3) → lv 4 = some (jI x4) → lv 5 = some (jI x5) → lv 6 = some (jI x6) → lv 7 = some (jI x7) → lv 8 = some (jI s.1) → lv 9 = some (jI s.2.1) → ey (mm_xt L xs) 2 215 66 lv [] (jhm b s.2.2) r) (Q := fun x => (∀ lv : jL, lv 8 = some (jI x.1) → ey (mm_xt L xs) 2 215 174 lv [] (jhm b x.2) r)) (fun s q hq hk => jk_215_s66 hb h6 hq hk) jfu _ x e K
set_option maxRecDepth 100000 in
theorem jk_215_b48 {L : Nat} {xs : Nat → Int32} {b : jH} (hb : 152 ≤ b.1) (h6 : b.1 ≤ 1000000) {x1 : Int} {x2 : Int} {x3 : Int} {x4 : Int} {x5 : Int} {x6 : Int} {x7 : Int} {y0 : Int} {m : jM} {o : (Int × jM)} (e : jd_215_b48 x1 x2 x3 x4 x5 x6 x7 y0 m = some o) : ∀ lv : jL, lv 0 = some (jR (some 76)) → lv 1 = some (jI x1) → lv 2 = some (jI x2) → lv 3 = some (jI x3) → lv 4 = some (jI x4) → lv 5 = some (jI x5) → lv 6 = some (jI x6) → lv 7 = some (jI x7) → ey (mm_xt L xs) 2 215 48 lv [jI y0, jR (some 76)] (jhm b m) (.inl (some (jcv (jI o.1)), jaH (jhm b o.2))) := by
  intro lv f0 f1 f2 f3 f4 f5 f6 f7
  unfold jd_215_b48 at e
  obtain ⟨m1, e2, e⟩ := jbind e
  refine ey_putf_i (cd_215 rfl) mt_215 rfl rfl rfl (jhm_pi' (k := 0) hb e2) ?_
  refine ey_aload_n (cd_215 rfl) f0 ?_
  refine ey_getf_i (z := (m1 76 0)) (cd_215 rfl) mt_215 rfl rfl rfl (jhm_gi hb 0) ?_
  by_cases q3 : (jw (m1 76 0)) ≤ 0
  · rw [if_pos q3] at e
    refine ey_zle (cd_215 rfl) rfl rfl q3 ?_
    refine ey_iconst (cd_215 rfl) ?_
    refine ey_istore (cd_215 rfl) mt_215 rfl ?_
    refine ey_iconst (cd_215 rfl) ?_
    refine ey_istore (cd_215 rfl) mt_215 rfl ?_
    obtain ⟨x20, e21, e⟩ := jbind e
    refine jk_215_l66 hb h6 e21 ?_ (jup (jup lv 8 (jI 0)) 9 (jI 0)) f0 f1 f2 f3 f4 f5 f6 (jup_o rfl (jup_pi (lv := lv) (j := 7) (v := jI 0) (z := x7) f7)) (jup_pi (lv := (jup lv 8 (jI 0))) (j := 8) (v := jI 0) (z := 0) rfl) rfl
    intro lv g8
    refine ey_iload (cd_215 rfl) g8 ?_
    cases e
    exact ey_reti (cd_215 rfl) mt_215 rfl
  · rw [if_neg q3] at e
    refine ey_yle (cd_215 rfl) rfl rfl q3 ?_
    refine ey_iconst (cd_215 rfl) ?_
    cases e
    exact ey_reti (cd_215 rfl) mt_215 rfl
set_option maxRecDepth 100000 in
theorem ok_215 {L : Nat} {xs : Nat → Int32} {b : jH} (hb : 152 ≤ b.1) (h6 : b.1 ≤ 1000000) {p0 : Int} {p1 : Int} {p2 : Int} {p3 : Int} {p4 : Int} {p5 : Int} {p6 : Int} {m : jM} {o : (Int × jM)} (e : jd_215 p0 p1 p2 p3 p4 p5 p6 m = some o) : mm_Runs (mm_xt L xs) 3 215 ([jR (some 76), jI p0, jI p1, jI p2, jI p3, jI p4, jI p5, jI p6].map jcv) (jaH (jhm b m)) (.inl (some (jcv (jI o.1)), jaH (jhm b o.2))) := by
  refine ey_run0 _ mt_215 (jsl_s rfl) ?_
  unfold jd_215 at e
  refine ey_aload_n (cd_215 rfl) rfl ?_
  refine ey_aload_n (cd_215 rfl) rfl ?_
  refine ey_iload_n (cd_215 rfl) rfl ?_
  refine ey_cv (s0 := [jI p0, jR (some 76), jR (some 76)]) (s1 := [jR (some 76)]) (st' := [jI (jd_210 p0 m), jR (some 76)]) (cd_215 rfl) mt_215 mt_210 rfl rfl rfl (jhm_is hb) rfl (jsml_s rfl) rfl (ok_210 hb h6 ) ?_
  have K22 : ∀ lv : jL, lv 0 = some (jR (some 76)) → lv 1 = some (jI p0) → lv 2 = some (jI p1) → lv 3 = some (jI p2) → lv 4 = some (jI p3) → lv 5 = some (jI p4) → lv 6 = some (jI p5) → lv 7 = some (jI p6) → ey (mm_xt L xs) 2 215 48 lv [jI (if (jw (jd_210 p0 m)) = 0 then 1 else (if (jw (jd_211 p1)) = 0 then 1 else (if (jw (jd_204 (jw p6) 0 255)) = 0 then 2 else (if (jw p4) < 0 then 2 else (if 0 ≤ (jw p5) then 0 else 2))))), jR (some 76)] (jhm b m) (.inl (some (jcv (jI o.1)), jaH (jhm b o.2))) := by
    intro lv g0 g1 g2 g3 g4 g5 g6 g7
    exact jk_215_b48 hb h6 e lv g0 g1 g2 g3 g4 g5 g6 g7
  by_cases q23 : (jw (jd_210 p0 m)) = 0
  · refine ey_zeq (cd_215 rfl) rfl rfl q23 ?_
    refine ey_iconst (cd_215 rfl) ?_
    refine ey_goto (cd_215 rfl) rfl ?_
    exact ey_rs (s0 := [jI 1, jR (some 76)]) (s1 := [jI (if (jw (jd_210 p0 m)) = 0 then 1 else (if (jw (jd_211 p1)) = 0 then 1 else (if (jw (jd_204 (jw p6) 0 255)) = 0 then 2 else (if (jw p4) < 0 then 2 else (if 0 ≤ (jw p5) then 0 else 2))))), jR (some 76)]) (by rw [show ((if (jw (jd_210 p0 m)) = 0 then 1 else (if (jw (jd_211 p1)) = 0 then 1 else (if (jw (jd_204 (jw p6) 0 255)) = 0 then 2 else (if (jw p4) < 0 then 2 else (if 0 ≤ (jw p5) then 0 else 2))))) : Int) = 1 from (if_pos q23)]) (K22 (jlf (jla 0 [jR (some 76), jI p0, jI p1, jI p2, jI p3, jI p4, jI p5, jI p6])) rfl rfl rfl rfl rfl rfl rfl rfl)
  · refine ey_yeq (cd_215 rfl) rfl rfl q23 ?_
    refine ey_iload_n (cd_215 rfl) rfl ?_
    refine ey_cs (s0 := [jI p1, jR (some 76)]) (s1 := [jR (some 76)]) (st' := [jI (jd_211 p1), jR (some 76)]) (cd_215 rfl) mt_215 mt_211 rfl (by decide) rfl rfl (jsml_s rfl) rfl (ok_211 ) ?_
    by_cases q24 : (jw (jd_211 p1)) = 0
    · refine ey_yne (cd_215 rfl) rfl rfl (fun w => w q24) ?_
      refine ey_iconst (cd_215 rfl) ?_
      refine ey_goto (cd_215 rfl) rfl ?_
      exact ey_rs (s0 := [jI 1, jR (some 76)]) (s1 := [jI (if (jw (jd_210 p0 m)) = 0 then 1 else (if (jw (jd_211 p1)) = 0 then 1 else (if (jw (jd_204 (jw p6) 0 255)) = 0 then 2 else (if (jw p4) < 0 then 2 else (if 0 ≤ (jw p5) then 0 else 2))))), jR (some 76)]) (by rw [show ((if (jw (jd_210 p0 m)) = 0 then 1 else (if (jw (jd_211 p1)) = 0 then 1 else (if (jw (jd_204 (jw p6) 0 255)) = 0 then 2 else (if (jw p4) < 0 then 2 else (if 0 ≤ (jw p5) then 0 else 2))))) : Int) = 1 from ((if_neg q23).trans (if_pos q24))]) (K22 (jlf (jla 0 [jR (some 76), jI p0, jI p1, jI p2, jI p3, jI p4, jI p5, jI p6])) rfl rfl rfl rfl rfl rfl rfl rfl)
    · refine ey_zne (cd_215 rfl) rfl rfl q24 ?_
      refine ey_iload (cd_215 rfl) rfl ?_
      refine ey_i2l (cd_215 rfl) ?_
      refine ey_lconst0 (cd_215 rfl) ?_
      refine ey_ldc2 (z := 255) (cd_215 rfl) mt_215 rfl (by decide) ?_
      refine ey_cs (s0 := [jJ 255, jJ 0, jJ (jw p6), jR (some 76)]) (s1 := [jR (some 76)]) (st' := [jI (jd_204 (jw p6) 0 255), jR (some 76)]) (cd_215 rfl) mt_215 mt_204 rfl (by decide) rfl rfl (jsml_s rfl) rfl (mm_Runs.up (d := 1) (by decide) (ok_204 )) ?_
      by_cases q25 : (jw (jd_204 (jw p6) 0 255)) = 0
      · refine ey_zeq (cd_215 rfl) rfl rfl q25 ?_
        refine ey_iconst (cd_215 rfl) ?_
        refine ey_goto (cd_215 rfl) rfl ?_
        exact ey_rs (s0 := [jI 2, jR (some 76)]) (s1 := [jI (if (jw (jd_210 p0 m)) = 0 then 1 else (if (jw (jd_211 p1)) = 0 then 1 else (if (jw (jd_204 (jw p6) 0 255)) = 0 then 2 else (if (jw p4) < 0 then 2 else (if 0 ≤ (jw p5) then 0 else 2))))), jR (some 76)]) (by rw [show ((if (jw (jd_210 p0 m)) = 0 then 1 else (if (jw (jd_211 p1)) = 0 then 1 else (if (jw (jd_204 (jw p6) 0 255)) = 0 then 2 else (if (jw p4) < 0 then 2 else (if 0 ≤ (jw p5) then 0 else 2))))) : Int) = 2 from ((if_neg q23).trans ((if_neg q24).trans (if_pos q25)))]) (K22 (jlf (jla 0 [jR (some 76), jI p0, jI p1, jI p2, jI p3, jI p4, jI p5, jI p6])) rfl rfl rfl rfl rfl rfl rfl rfl)
      · refine ey_yeq (cd_215 rfl) rfl rfl q25 ?_
        refine ey_iload (cd_215 rfl) rfl ?_
        by_cases q26 : (jw p4) < 0
        · refine ey_zlt (cd_215 rfl) rfl rfl q26 ?_
          refine ey_iconst (cd_215 rfl) ?_
          refine ey_goto (cd_215 rfl) rfl ?_
          exact ey_rs (s0 := [jI 2, jR (some 76)]) (s1 := [jI (if (jw (jd_210 p0 m)) = 0 then 1 else (if (jw (jd_211 p1)) = 0 then 1 else (if (jw (jd_204 (jw p6) 0 255)) = 0 then 2 else (if (jw p4) < 0 then 2 else (if 0 ≤ (jw p5) then 0 else 2))))), jR (some 76)]) (by rw [show ((if (jw (jd_210 p0 m)) = 0 then 1 else (if (jw (jd_211 p1)) = 0 then 1 else (if (jw (jd_204 (jw p6) 0 255)) = 0 then 2 else (if (jw p4) < 0 then 2 else (if 0 ≤ (jw p5) then 0 else 2))))) : Int) = 2 from ((if_neg q23).trans ((if_neg q24).trans ((if_neg q25).trans (if_pos q26))))]) (K22 (jlf (jla 0 [jR (some 76), jI p0, jI p1, jI p2, jI p3, jI p4, jI p5, jI p6])) rfl rfl rfl rfl rfl rfl rfl rfl)
        · refine ey_ylt (cd_215 rfl) rfl rfl q26 ?_
          refine ey_iload (cd_215 rfl) rfl ?_
          by_cases q27 : 0 ≤ (jw p5)
          · refine ey_zge (cd_215 rfl) rfl rfl q27 ?_
            refine ey_iconst (cd_215 rfl) ?_
            exact ey_rs (s0 := [jI 0, jR (some 76)]) (s1 := [jI (if (jw (jd_210 p0 m)) = 0 then 1 else (if (jw (jd_211 p1)) = 0 then 1 else (if (jw (jd_204 (jw p6) 0 255)) = 0 then 2 else (if (jw p4) < 0 then 2 else (if 0 ≤ (jw p5) then 0 else 2))))), jR (some 76)]) (by rw [show ((if (jw (jd_210 p0 m)) = 0 then 1 else (if (jw (jd_211 p1)) = 0 then 1 else (if (jw (jd_204 (jw p6) 0 255)) = 0 then 2 else (if (jw p4) < 0 then 2 else (if 0 ≤ (jw p5) then 0 else 2))))) : Int) = 0 from ((if_neg q23).trans ((if_neg q24).trans ((if_neg q25).trans ((if_neg q26).trans (if_pos q27)))))]) (K22 (jlf (jla 0 [jR (some 76), jI p0, jI p1, jI p2, jI p3, jI p4, jI p5, jI p6])) rfl rfl rfl rfl rfl rfl rfl rfl)
          · refine ey_yge (cd_215 rfl) rfl rfl q27 ?_
            refine ey_iconst (cd_215 rfl) ?_
            refine ey_goto (cd_215 rfl) rfl ?_
            exact ey_rs (s0 := [jI 2, jR (some 76)]) (s1 := [jI (if (jw (jd_210 p0 m)) = 0 then 1 else (if (jw (jd_211 p1)) = 0 then 1 else (if (jw (jd_204 (jw p6) 0 255)) = 0 then 2 else (if (jw p4) < 0 then 2 else (if 0 ≤ (jw p5) then 0 else 2))))), jR (some 76)]) (by rw [show ((if (jw (jd_210 p0 m)) = 0 then 1 else (if (jw (jd_211 p1)) = 0 then 1 else (if (jw (jd_204 (jw p6) 0 255)) = 0 then 2 else (if (jw p4) < 0 then 2 else (if 0 ≤ (jw p5) then 0 else 2))))) : Int) = 2 from ((if_neg q23).trans ((if_neg q24).trans ((if_neg q25).trans ((if_neg q26).trans (if_neg q27)))))]) (K22 (jlf (jla 0 [jR (some 76), jI p0, jI p1, jI p2, jI p3, jI p4, jI p5, jI p6])) rfl rfl rfl rfl rfl rfl rfl rfl)
theorem cd_216 {pc : Nat} {i : Instr × Nat} (h : mm_lk mm_c216 pc = some i) : mm_cd 216 pc = some i := h
theorem mt_216 : mm_MT 216 = (12, 10, none, 4, 0, []) := rfl
set_option maxRecDepth 100000 in
theorem jk_216_s55 {L : Nat} {xs : Nat → Int32} {b : jH} (hb : 152 ≤ b.1) (h6 : b.1 ≤ 1000000) {x1 : Int} {x2 : Int} {x5 : Int} {x6 : Int} {x8 : Int} {m : jM} {o : ((Int × Int × jM) ⊕ jM)} {r : mm_R} (e : jd_216_s55 x1 x2 x5 x6 x8 m = some o) (K : jsm (fun s => (∀ lv : jL, lv 0 = some (jR (some 76)) → lv 1 = some (jI x1) → lv 2 = some (jI x2) → lv 5 = some (jI x5) → lv 6 = some (jJ s.1) → lv 8 = some (jI s.2.1) → ey (mm_xt L xs) 2 216 55 lv [] (jhm b s.2.2) r)) (fun x => (∀ lv : jL, ey (mm_xt L xs) 2 216 139 lv [] (jhm b x) r)) o) : ∀ lv : jL, lv 0 = some (jR (some 76)) → lv 1 = some (jI x1) → lv 2 = some (jI x2) → lv 5 = some (jI x5) → lv 6 = some (jJ x6) → lv 8 = some (jI x8) → ey (mm_xt L xs) 2 216 55 lv [] (jhm b m) r := by
  intro lv f0 f1 f2 f5 f6 f8
  unfold jd_216_s55 at e
  refine ey_iload (cd_216 rfl) f8 ?_
  refine ey_aload_n (cd_216 rfl) f0 ?_
  refine ey_iload_n (cd_216 rfl) f1 ?_
  refine ey_iload_n (cd_216 rfl) f2 ?_
  obtain ⟨v4, e5, e⟩ := jbind e
  refine ey_cv (s0 := [jI x2, jI x1, jR (some 76), jI x8]) (s1 := [jI x8]) (st' := [jI v4, jI x8]) (cd_216 rfl) mt_216 mt_213 rfl rfl rfl (jhm_is hb) rfl (jsml_s rfl) rfl (ok_213 hb h6 e5) ?_
  by_cases q6 : (jw v4) ≤ (jw x8)
  · rw [if_pos q6] at e
    refine ey_cge (cd_216 rfl) rfl rfl rfl q6 ?_
    cases e
    exact K lv 
  · rw [if_neg q6] at e
    refine ey_nge (cd_216 rfl) rfl rfl rfl q6 ?_
    refine ey_lload (cd_216 rfl) f6 ?_
    refine ey_ldc2 (z := 6364136223846793005) (cd_216 rfl) mt_216 rfl (by decide) ?_
    refine ey_lmul (cd_216 rfl) ?_
    refine ey_ldc2 (z := 1442695040888963407) (cd_216 rfl) mt_216 rfl (by decide) ?_
    refine ey_ladd (cd_216 rfl) ?_
    refine ey_lstore (cd_216 rfl) mt_216 rfl ?_
    refine ey_sipush (cd_216 rfl) (by decide) ?_
    refine ey_iload_n (cd_216 rfl) f1 ?_
    refine ey_imul (cd_216 rfl) ?_
    refine ey_iload_n (cd_216 rfl) f2 ?_
    refine ey_cs (s0 := [jI x2, jI (864 * x1)]) (s1 := [jI (864 * x1)]) (st' := [jI (jd_207 x2), jI (864 * x1)]) (cd_216 rfl) mt_216 mt_207 rfl (by decide) rfl rfl (jsml_s rfl) rfl (mm_Runs.up (d := 1) (by decide) (ok_207 )) ?_
    refine ey_iadd (cd_216 rfl) ?_
    refine ey_iload (cd_216 rfl) f8 ?_
    refine ey_iadd (cd_216 rfl) ?_
    obtain ⟨z7, e8, e⟩ := jbind e
    refine ey_rs (s0 := [jI (((864 * x1) + (jd_207 x2)) + x8)]) (s1 := [jI z7]) (by rw [show (((864 * x1) + (jd_207 x2)) + x8) = z7 from Option.some.inj e8]) ?_
    refine ey_istore (cd_216 rfl) mt_216 rfl ?_
    refine ey_aload_n (cd_216 rfl) f0 ?_
    refine ey_getf_r (cd_216 rfl) mt_216 rfl rfl rfl (jhm_gr (q := 79) hb rfl) ?_
    refine ey_iload (cd_216 rfl) rfl ?_
    refine ey_aload_n (cd_216 rfl) f0 ?_
    refine ey_getf_r (cd_216 rfl) mt_216 rfl rfl rfl (jhm_gr (q := 79) hb rfl) ?_
    refine ey_iload (cd_216 rfl) rfl ?_
    obtain ⟨v9, e10, e⟩ := jbind e
    refine ey_iald (cd_216 rfl) (jhm_ai hb h6 (by decide) rfl e10) ?_
    refine ey_i2l (cd_216 rfl) ?_
    refine ey_lload (cd_216 rfl) rfl ?_
    refine ey_bipush (cd_216 rfl) (by decide) ?_
    refine ey_lushr (cd_216 rfl) ?_
    refine ey_iconst (cd_216 rfl) ?_
    refine ey_iload (cd_216 rfl) (jup_o rfl (jup2_pi (lv := lv) (j := 5) (v := jJ ((x6 * 6364136223846793005) + 1442695040888963407)) (z := x5) f5)) ?_
    refine ey_imul (cd_216 rfl) ?_
    refine ey_iconst (cd_216 rfl) ?_
    refine ey_iadd (cd_216 rfl) ?_
    refine ey_i2l (cd_216 rfl) ?_
    obtain ⟨u11, e12, e⟩ := jbind e
    refine ey_lrem (cd_216 rfl) (jnzl_s e12) ?_
    refine ey_ladd (cd_216 rfl) ?_
    refine ey_iload (cd_216 rfl) (jup_o rfl (jup2_pi (lv := lv) (j := 5) (v := jJ ((x6 * 6364136223846793005) + 1442695040888963407)) (z := x5) f5)) ?_
    refine ey_i2l (cd_216 rfl) ?_
    refine ey_lsub (cd_216 rfl) ?_
    refine ey_iconst (cd_216 rfl) ?_
    refine ey_sipush (cd_216 rfl) (by decide) ?_
    refine ey_cs (s0 := [jI 255, jI 0, jJ (((jw v9) + (jlrem (jlushr ((x6 * 6364136223846793005) + 1442695040888963407) 33) (jw ((2 * x5) + 1)))) - (jw x5)), jI z7, jR (some 79)]) (s1 := [jI z7, jR (some 79)]) (st' := [jI (jd_205 (((jw v9) + (jlrem (jlushr ((x6 * 6364136223846793005) + 1442695040888963407) 33) (jw ((2 * x5) + 1)))) - (jw x5)) 0 255), jI z7, jR (some 79)]) (cd_216 rfl) mt_216 mt_205 rfl (by decide) rfl rfl (jsml_s rfl) rfl (mm_Runs.up (d := 1) (by decide) (ok_205 )) ?_
    obtain ⟨m13, e14, e⟩ := jbind e
    refine ey_iast (cd_216 rfl) (jhm_ta hb (by decide) rfl e14) ?_
    refine ey_iinc (cd_216 rfl) mt_216 rfl (jup_pi (lv := (jup2 lv 6 (jJ ((x6 * 6364136223846793005) + 1442695040888963407)))) (j := 8) (v := jI z7) (z := x8) f8) ?_
    refine ey_goto (cd_216 rfl) rfl ?_
    cases e
    exact K (jup (jup (jup2 lv 6 (jJ ((x6 * 6364136223846793005) + 1442695040888963407))) 9 (jI z7)) 8 (jI (x8 + 1))) f0 f1 f2 (jup_o rfl (jup_o rfl (jup2_pi (lv := lv) (j := 5) (v := jJ ((x6 * 6364136223846793005) + 1442695040888963407)) (z := x5) f5))) rfl rfl
theorem jk_216_l55 {L : Nat} {xs : Nat → Int32} {b : jH} (hb : 152 ≤ b.1) (h6 : b.1 ≤ 1000000) {x1 : Int} {x2 : Int} {x5 : Int} {x6 : Int} {x8 : Int} {m : jM} {x : jM} {r : mm_R} (e : jd_216_l55 x1 x2 x5 x6 x8 m = some x) (K : (∀ lv : jL, ey (mm_xt L xs) 2 216 139 lv [] (jhm b x) r)) : ∀ lv : jL, lv 0 = some (jR (some 76)) → lv 1 = some (jI x1) → lv 2 = some (jI x2) → lv 5 = some (jI x5) → lv 6 = some (jJ x6) → lv 8 = some (jI x8) → ey (mm_xt L xs) 2 216 55 lv [] (jhm b m) r := by
  unfold jd_216_l55 at e
  exact jlp_ok2 (P := fun s => ∀ lv : jL, lv 0 = some (jR (some 76)) → lv 1 = some (jI x1) → lv 2 = some (jI x2) → lv 5 = some (jI x5) → lv 6 = some (jJ s.1) → lv 8 = some (jI s.2.1) → ey (mm_xt L xs) 2 216 55 lv [] (jhm b s.2.2) r) (Q := fun x => (∀ lv : jL, ey (mm_xt L xs) 2 216 139 lv [] (jhm b x) r)) (fun s q hq hk => jk_216_s55 hb h6 hq hk) jfu _ x e K
set_option maxRecDepth 100000 in
theorem jk_216_b38 {L : Nat} {xs : Nat → Int32} {b : jH} (hb : 152 ≤ b.1) (h6 : b.1 ≤ 1000000) {x1 : Int} {x2 : Int} {x3 : Int} {x5 : Int} {y0 : Int} {m : jM} {o : jM} (e : jd_216_b38 x1 x2 x3 x5 y0 m = some o) : ∀ lv : jL, lv 0 = some (jR (some 76)) → lv 1 = some (jI x1) → lv 2 = some (jI x2) → lv 3 = some (jJ x3) → lv 5 = some (jI x5) → ey (mm_xt L xs) 2 216 38 lv [jI y0, jR (some 76)] (jhm b m) (.inl (none, jaH (jhm b o))) := by
  intro lv f0 f1 f2 f3 f5
  unfold jd_216_b38 at e
  obtain ⟨m1, e2, e⟩ := jbind e
  refine ey_putf_i (cd_216 rfl) mt_216 rfl rfl rfl (jhm_pi' (k := 0) hb e2) ?_
  refine ey_aload_n (cd_216 rfl) f0 ?_
  refine ey_getf_i (z := (m1 76 0)) (cd_216 rfl) mt_216 rfl rfl rfl (jhm_gi hb 0) ?_
  by_cases q3 : (jw (m1 76 0)) ≤ 0
  · rw [if_pos q3] at e
    refine ey_zle (cd_216 rfl) rfl rfl q3 ?_
    refine ey_lload_n (cd_216 rfl) f3 ?_
    refine ey_lstore (cd_216 rfl) mt_216 rfl ?_
    refine ey_iconst (cd_216 rfl) ?_
    refine ey_istore (cd_216 rfl) mt_216 rfl ?_
    obtain ⟨x15, e16, e⟩ := jbind e
    refine jk_216_l55 hb h6 e16 ?_ (jup (jup2 lv 6 (jJ x3)) 8 (jI 0)) f0 f1 f2 (jup_o rfl (jup2_pi (lv := lv) (j := 5) (v := jJ x3) (z := x5) f5)) rfl rfl
    intro lv 
    cases e
    exact ey_retv (cd_216 rfl) mt_216 rfl
  · rw [if_neg q3] at e
    refine ey_yle (cd_216 rfl) rfl rfl q3 ?_
    cases e
    exact ey_retv (cd_216 rfl) mt_216 rfl
set_option maxRecDepth 100000 in
theorem ok_216 {L : Nat} {xs : Nat → Int32} {b : jH} (hb : 152 ≤ b.1) (h6 : b.1 ≤ 1000000) {p0 : Int} {p1 : Int} {p2 : Int} {p3 : Int} {m : jM} {o : jM} (e : jd_216 p0 p1 p2 p3 m = some o) : mm_Runs (mm_xt L xs) 3 216 ([jR (some 76), jI p0, jI p1, jJ p2, jI p3].map jcv) (jaH (jhm b m)) (.inl (none, jaH (jhm b o))) := by
  refine ey_run0 _ mt_216 (jsl_s rfl) ?_
  unfold jd_216 at e
  refine ey_aload_n (cd_216 rfl) rfl ?_
  refine ey_aload_n (cd_216 rfl) rfl ?_
  refine ey_iload_n (cd_216 rfl) rfl ?_
  refine ey_cv (s0 := [jI p0, jR (some 76), jR (some 76)]) (s1 := [jR (some 76)]) (st' := [jI (jd_210 p0 m), jR (some 76)]) (cd_216 rfl) mt_216 mt_210 rfl rfl rfl (jhm_is hb) rfl (jsml_s rfl) rfl (ok_210 hb h6 ) ?_
  have K17 : ∀ lv : jL, lv 0 = some (jR (some 76)) → lv 1 = some (jI p0) → lv 2 = some (jI p1) → lv 3 = some (jJ p2) → lv 5 = some (jI p3) → ey (mm_xt L xs) 2 216 38 lv [jI (if (jw (jd_210 p0 m)) = 0 then 1 else (if (jw (jd_211 p1)) = 0 then 1 else (if (jw (jd_204 (jw p3) 0 255)) = 0 then 2 else 0))), jR (some 76)] (jhm b m) (.inl (none, jaH (jhm b o))) := by
    intro lv g0 g1 g2 g3 g5
    exact jk_216_b38 hb h6 e lv g0 g1 g2 g3 g5
  by_cases q18 : (jw (jd_210 p0 m)) = 0
  · refine ey_zeq (cd_216 rfl) rfl rfl q18 ?_
    refine ey_iconst (cd_216 rfl) ?_
    refine ey_goto (cd_216 rfl) rfl ?_
    exact ey_rs (s0 := [jI 1, jR (some 76)]) (s1 := [jI (if (jw (jd_210 p0 m)) = 0 then 1 else (if (jw (jd_211 p1)) = 0 then 1 else (if (jw (jd_204 (jw p3) 0 255)) = 0 then 2 else 0))), jR (some 76)]) (by rw [show ((if (jw (jd_210 p0 m)) = 0 then 1 else (if (jw (jd_211 p1)) = 0 then 1 else (if (jw (jd_204 (jw p3) 0 255)) = 0 then 2 else 0))) : Int) = 1 from (if_pos q18)]) (K17 (jlf (jla 0 [jR (some 76), jI p0, jI p1, jJ p2, jI p3])) rfl rfl rfl rfl rfl)
  · refine ey_yeq (cd_216 rfl) rfl rfl q18 ?_
    refine ey_iload_n (cd_216 rfl) rfl ?_
    refine ey_cs (s0 := [jI p1, jR (some 76)]) (s1 := [jR (some 76)]) (st' := [jI (jd_211 p1), jR (some 76)]) (cd_216 rfl) mt_216 mt_211 rfl (by decide) rfl rfl (jsml_s rfl) rfl (ok_211 ) ?_
    by_cases q19 : (jw (jd_211 p1)) = 0
    · refine ey_yne (cd_216 rfl) rfl rfl (fun w => w q19) ?_
      refine ey_iconst (cd_216 rfl) ?_
      refine ey_goto (cd_216 rfl) rfl ?_
      exact ey_rs (s0 := [jI 1, jR (some 76)]) (s1 := [jI (if (jw (jd_210 p0 m)) = 0 then 1 else (if (jw (jd_211 p1)) = 0 then 1 else (if (jw (jd_204 (jw p3) 0 255)) = 0 then 2 else 0))), jR (some 76)]) (by rw [show ((if (jw (jd_210 p0 m)) = 0 then 1 else (if (jw (jd_211 p1)) = 0 then 1 else (if (jw (jd_204 (jw p3) 0 255)) = 0 then 2 else 0))) : Int) = 1 from ((if_neg q18).trans (if_pos q19))]) (K17 (jlf (jla 0 [jR (some 76), jI p0, jI p1, jJ p2, jI p3])) rfl rfl rfl rfl rfl)
    · refine ey_zne (cd_216 rfl) rfl rfl q19 ?_
      refine ey_iload (cd_216 rfl) rfl ?_
      refine ey_i2l (cd_216 rfl) ?_
      refine ey_lconst0 (cd_216 rfl) ?_
      refine ey_ldc2 (z := 255) (cd_216 rfl) mt_216 rfl (by decide) ?_
      refine ey_cs (s0 := [jJ 255, jJ 0, jJ (jw p3), jR (some 76)]) (s1 := [jR (some 76)]) (st' := [jI (jd_204 (jw p3) 0 255), jR (some 76)]) (cd_216 rfl) mt_216 mt_204 rfl (by decide) rfl rfl (jsml_s rfl) rfl (mm_Runs.up (d := 1) (by decide) (ok_204 )) ?_
      by_cases q20 : (jw (jd_204 (jw p3) 0 255)) = 0
      · refine ey_yne (cd_216 rfl) rfl rfl (fun w => w q20) ?_
        refine ey_iconst (cd_216 rfl) ?_
        refine ey_goto (cd_216 rfl) rfl ?_
        exact ey_rs (s0 := [jI 2, jR (some 76)]) (s1 := [jI (if (jw (jd_210 p0 m)) = 0 then 1 else (if (jw (jd_211 p1)) = 0 then 1 else (if (jw (jd_204 (jw p3) 0 255)) = 0 then 2 else 0))), jR (some 76)]) (by rw [show ((if (jw (jd_210 p0 m)) = 0 then 1 else (if (jw (jd_211 p1)) = 0 then 1 else (if (jw (jd_204 (jw p3) 0 255)) = 0 then 2 else 0))) : Int) = 2 from ((if_neg q18).trans ((if_neg q19).trans (if_pos q20)))]) (K17 (jlf (jla 0 [jR (some 76), jI p0, jI p1, jJ p2, jI p3])) rfl rfl rfl rfl rfl)
      · refine ey_zne (cd_216 rfl) rfl rfl q20 ?_
        refine ey_iconst (cd_216 rfl) ?_
        exact ey_rs (s0 := [jI 0, jR (some 76)]) (s1 := [jI (if (jw (jd_210 p0 m)) = 0 then 1 else (if (jw (jd_211 p1)) = 0 then 1 else (if (jw (jd_204 (jw p3) 0 255)) = 0 then 2 else 0))), jR (some 76)]) (by rw [show ((if (jw (jd_210 p0 m)) = 0 then 1 else (if (jw (jd_211 p1)) = 0 then 1 else (if (jw (jd_204 (jw p3) 0 255)) = 0 then 2 else 0))) : Int) = 0 from ((if_neg q18).trans ((if_neg q19).trans (if_neg q20)))]) (K17 (jlf (jla 0 [jR (some 76), jI p0, jI p1, jJ p2, jI p3])) rfl rfl rfl rfl rfl)
theorem cd_217 {pc : Nat} {i : Instr × Nat} (h : mm_lk mm_c217 pc = some i) : mm_cd 217 pc = some i := h
theorem mt_217 : mm_MT 217 = (12, 11, some .int, 3, 0, []) := rfl
set_option maxRecDepth 100000 in
theorem jk_217_s177 {L : Nat} {xs : Nat → Int32} {b : jH} (hb : 152 ≤ b.1) (h6 : b.1 ≤ 1000000) {x1 : Int} {x2 : Int} {x3 : Int} {x4 : Int} {x5 : Int} {x6 : Int} {x7 : Int} {x8 : Int} {x9 : Int} {x10 : Int} {m : jM} {o : ((Int × jM) ⊕ jM)} {r : mm_R} (e : jd_217_s177 x1 x2 x3 x4 x5 x6 x7 x8 x9 x10 m = some o) (K : jsm (fun s => (∀ lv : jL, lv 0 = some (jR (some 76)) → lv 1 = some (jI x1) → lv 2 = some (jI x2) → lv 3 = some (jI x3) → lv 4 = some (jI x4) → lv 5 = some (jI x5) → lv 6 = some (jI x6) → lv 7 = some (jI x7) → lv 8 = some (jI x8) → lv 9 = some (jI x9) → lv 10 = some (jI s.1) → ey (mm_xt L xs) 2 217 177 lv [] (jhm b s.2) r)) (fun x => (∀ lv : jL, lv 0 = some (jR (some 76)) → lv 1 = some (jI x1) → lv 2 = some (jI x2) → lv 3 = some (jI x3) → lv 4 = some (jI x4) → lv 5 = some (jI x5) → lv 6 = some (jI x6) → lv 7 = some (jI x7) → lv 8 = some (jI x8) → lv 9 = some (jI x9) → ey (mm_xt L xs) 2 217 249 lv [] (jhm b x) r)) o) : ∀ lv : jL, lv 0 = some (jR (some 76)) → lv 1 = some (jI x1) → lv 2 = some (jI x2) → lv 3 = some (jI x3) → lv 4 = some (jI x4) → lv 5 = some (jI x5) → lv 6 = some (jI x6) → lv 7 = some (jI x7) → lv 8 = some (jI x8) → lv 9 = some (jI x9) → lv 10 = some (jI x10) → ey (mm_xt L xs) 2 217 177 lv [] (jhm b m) r := by
  intro lv f0 f1 f2 f3 f4 f5 f6 f7 f8 f9 f10
  unfold jd_217_s177 at e
  refine ey_iload (cd_217 rfl) f10 ?_
  refine ey_iload (cd_217 rfl) f5 ?_
  by_cases q22 : (jw x5) ≤ (jw x10)
  · rw [if_pos q22] at e
    refine ey_cge (cd_217 rfl) rfl rfl rfl q22 ?_
    cases e
    exact K lv f0 f1 f2 f3 f4 f5 f6 f7 f8 f9
  · rw [if_neg q22] at e
    refine ey_nge (cd_217 rfl) rfl rfl rfl q22 ?_
    refine ey_aload_n (cd_217 rfl) f0 ?_
    refine ey_getf_r (cd_217 rfl) mt_217 rfl rfl rfl (jhm_gr (q := 79) hb rfl) ?_
    refine ey_aload_n (cd_217 rfl) f0 ?_
    refine ey_aload_n (cd_217 rfl) f0 ?_
    refine ey_getf_i (z := (m 76 1)) (cd_217 rfl) mt_217 rfl rfl rfl (jhm_gi hb 1) ?_
    refine ey_iload (cd_217 rfl) f4 ?_
    refine ey_iload (cd_217 rfl) f10 ?_
    refine ey_iload (cd_217 rfl) f9 ?_
    obtain ⟨v23, e24, e⟩ := jbind e
    refine ey_cv (s0 := [jI x9, jI x10, jI x4, jI (m 76 1), jR (some 76), jR (some 79)]) (s1 := [jR (some 79)]) (st' := [jI v23, jR (some 79)]) (cd_217 rfl) mt_217 mt_212 rfl rfl rfl (jhm_is hb) rfl (jsml_s rfl) rfl (ok_212 hb h6 e24) ?_
    refine ey_aload_n (cd_217 rfl) f0 ?_
    refine ey_getf_r (cd_217 rfl) mt_217 rfl rfl rfl (jhm_gr (q := 79) hb rfl) ?_
    refine ey_aload_n (cd_217 rfl) f0 ?_
    refine ey_iload_n (cd_217 rfl) f1 ?_
    refine ey_iload (cd_217 rfl) f4 ?_
    refine ey_iload (cd_217 rfl) f10 ?_
    refine ey_iload (cd_217 rfl) f7 ?_
    refine ey_isub (cd_217 rfl) ?_
    refine ey_i2l (cd_217 rfl) ?_
    refine ey_iconst (cd_217 rfl) ?_
    refine ey_iload (cd_217 rfl) f5 ?_
    refine ey_iconst (cd_217 rfl) ?_
    refine ey_isub (cd_217 rfl) ?_
    refine ey_cs (s0 := [jI (x5 - 1), jI 0, jJ (jw (x10 - x7)), jI x4, jI x1, jR (some 76), jR (some 79), jI v23, jR (some 79)]) (s1 := [jI x4, jI x1, jR (some 76), jR (some 79), jI v23, jR (some 79)]) (st' := [jI (jd_205 (jw (x10 - x7)) 0 (x5 - 1)), jI x4, jI x1, jR (some 76), jR (some 79), jI v23, jR (some 79)]) (cd_217 rfl) mt_217 mt_205 rfl (by decide) rfl rfl (jsml_s rfl) rfl (mm_Runs.up (d := 1) (by decide) (ok_205 )) ?_
    refine ey_iload (cd_217 rfl) f9 ?_
    refine ey_iload (cd_217 rfl) f8 ?_
    refine ey_isub (cd_217 rfl) ?_
    refine ey_i2l (cd_217 rfl) ?_
    refine ey_iconst (cd_217 rfl) ?_
    refine ey_iload (cd_217 rfl) f6 ?_
    refine ey_iconst (cd_217 rfl) ?_
    refine ey_isub (cd_217 rfl) ?_
    refine ey_cs (s0 := [jI (x6 - 1), jI 0, jJ (jw (x9 - x8)), jI (jd_205 (jw (x10 - x7)) 0 (x5 - 1)), jI x4, jI x1, jR (some 76), jR (some 79), jI v23, jR (some 79)]) (s1 := [jI (jd_205 (jw (x10 - x7)) 0 (x5 - 1)), jI x4, jI x1, jR (some 76), jR (some 79), jI v23, jR (some 79)]) (st' := [jI (jd_205 (jw (x9 - x8)) 0 (x6 - 1)), jI (jd_205 (jw (x10 - x7)) 0 (x5 - 1)), jI x4, jI x1, jR (some 76), jR (some 79), jI v23, jR (some 79)]) (cd_217 rfl) mt_217 mt_205 rfl (by decide) rfl rfl (jsml_s rfl) rfl (mm_Runs.up (d := 1) (by decide) (ok_205 )) ?_
    obtain ⟨v25, e26, e⟩ := jbind e
    refine ey_cv (s0 := [jI (jd_205 (jw (x9 - x8)) 0 (x6 - 1)), jI (jd_205 (jw (x10 - x7)) 0 (x5 - 1)), jI x4, jI x1, jR (some 76), jR (some 79), jI v23, jR (some 79)]) (s1 := [jR (some 79), jI v23, jR (some 79)]) (st' := [jI v25, jR (some 79), jI v23, jR (some 79)]) (cd_217 rfl) mt_217 mt_212 rfl rfl rfl (jhm_is hb) rfl (jsml_s rfl) rfl (ok_212 hb h6 e26) ?_
    obtain ⟨v27, e28, e⟩ := jbind e
    refine ey_iald (cd_217 rfl) (jhm_ai hb h6 (by decide) rfl e28) ?_
    obtain ⟨m29, e30, e⟩ := jbind e
    refine ey_iast (cd_217 rfl) (jhm_ta hb (by decide) rfl e30) ?_
    refine ey_iinc (cd_217 rfl) mt_217 rfl f10 ?_
    refine ey_goto (cd_217 rfl) rfl ?_
    cases e
    exact K (jup lv 10 (jI (x10 + 1))) f0 f1 f2 f3 f4 f5 f6 f7 f8 (jup_pi (lv := lv) (j := 9) (v := jI (x10 + 1)) (z := x9) f9) rfl
theorem jk_217_l177 {L : Nat} {xs : Nat → Int32} {b : jH} (hb : 152 ≤ b.1) (h6 : b.1 ≤ 1000000) {x1 : Int} {x2 : Int} {x3 : Int} {x4 : Int} {x5 : Int} {x6 : Int} {x7 : Int} {x8 : Int} {x9 : Int} {x10 : Int} {m : jM} {x : jM} {r : mm_R} (e : jd_217_l177 x1 x2 x3 x4 x5 x6 x7 x8 x9 x10 m = some x) (K : (∀ lv : jL, lv 0 = some (jR (some 76)) → lv 1 = some (jI x1) → lv 2 = some (jI x2) → lv 3 = some (jI x3) → lv 4 = some (jI x4) → lv 5 = some (jI x5) → lv 6 = some (jI x6) → lv 7 = some (jI x7) → lv 8 = some (jI x8) → lv 9 = some (jI x9) → ey (mm_xt L xs) 2 217 249 lv [] (jhm b x) r)) : ∀ lv : jL, lv 0 = some (jR (some 76)) → lv 1 = some (jI x1) → lv 2 = some (jI x2) → lv 3 = some (jI x3) → lv 4 = some (jI x4) → lv 5 = some (jI x5) → lv 6 = some (jI x6) → lv 7 = some (jI x7) → lv 8 = some (jI x8) → lv 9 = some (jI x9) → lv 10 = some (jI x10) → ey (mm_xt L xs) 2 217 177 lv [] (jhm b m) r := by
  unfold jd_217_l177 at e
  exact jlp_ok2 (P := fun s => ∀ lv : jL, lv 0 = some (jR (some 76)) → lv 1 = some (jI x1) → lv 2 = some (jI x2) → lv 3 = some (jI x3) → lv 4 = some (jI x4) → lv 5 = some (jI x5) → lv 6 = some (jI x6) → lv 7 = some (jI x7) → lv 8 = some (jI x8) → lv 9 = some (jI x9) → lv 10 = some (jI s.1) → ey (mm_xt L xs) 2 217 177 lv [] (jhm b s.2) r) (Q := fun x => (∀ lv : jL, lv 0 = some (jR (some 76)) → lv 1 = some (jI x1) → lv 2 = some (jI x2) → lv 3 = some (jI x3) → lv 4 = some (jI x4) → lv 5 = some (jI x5) → lv 6 = some (jI x6) → lv 7 = some (jI x7) → lv 8 = some (jI x8) → lv 9 = some (jI x9) → ey (mm_xt L xs) 2 217 249 lv [] (jhm b x) r)) (fun s q hq hk => jk_217_s177 hb h6 hq hk) jfu _ x e K
set_option maxRecDepth 100000 in
theorem jk_217_s167 {L : Nat} {xs : Nat → Int32} {b : jH} (hb : 152 ≤ b.1) (h6 : b.1 ≤ 1000000) {x1 : Int} {x2 : Int} {x3 : Int} {x4 : Int} {x5 : Int} {x6 : Int} {x7 : Int} {x8 : Int} {x9 : Int} {m : jM} {o : ((Int × jM) ⊕ jM)} {r : mm_R} (e : jd_217_s167 x1 x2 x3 x4 x5 x6 x7 x8 x9 m = some o) (K : jsm (fun s => (∀ lv : jL, lv 0 = some (jR (some 76)) → lv 1 = some (jI x1) → lv 2 = some (jI x2) → lv 3 = some (jI x3) → lv 4 = some (jI x4) → lv 5 = some (jI x5) → lv 6 = some (jI x6) → lv 7 = some (jI x7) → lv 8 = some (jI x8) → lv 9 = some (jI s.1) → ey (mm_xt L xs) 2 217 167 lv [] (jhm b s.2) r)) (fun x => (∀ lv : jL, lv 0 = some (jR (some 76)) → lv 1 = some (jI x1) → lv 2 = some (jI x2) → lv 3 = some (jI x3) → lv 4 = some (jI x4) → ey (mm_xt L xs) 2 217 255 lv [] (jhm b x) r)) o) : ∀ lv : jL, lv 0 = some (jR (some 76)) → lv 1 = some (jI x1) → lv 2 = some (jI x2) → lv 3 = some (jI x3) → lv 4 = some (jI x4) → lv 5 = some (jI x5) → lv 6 = some (jI x6) → lv 7 = some (jI x7) → lv 8 = some (jI x8) → lv 9 = some (jI x9) → ey (mm_xt L xs) 2 217 167 lv [] (jhm b m) r := by
  intro lv f0 f1 f2 f3 f4 f5 f6 f7 f8 f9
  unfold jd_217_s167 at e
  refine ey_iload (cd_217 rfl) f9 ?_
  refine ey_iload (cd_217 rfl) f6 ?_
  by_cases q21 : (jw x6) ≤ (jw x9)
  · rw [if_pos q21] at e
    refine ey_cge (cd_217 rfl) rfl rfl rfl q21 ?_
    cases e
    exact K lv f0 f1 f2 f3 f4
  · rw [if_neg q21] at e
    refine ey_nge (cd_217 rfl) rfl rfl rfl q21 ?_
    refine ey_iconst (cd_217 rfl) ?_
    refine ey_istore (cd_217 rfl) mt_217 rfl ?_
    obtain ⟨x31, e32, e⟩ := jbind e
    refine jk_217_l177 hb h6 e32 ?_ (jup lv 10 (jI 0)) f0 f1 f2 f3 f4 f5 f6 f7 f8 (jup_pi (lv := lv) (j := 9) (v := jI 0) (z := x9) f9) rfl
    intro lv g0 g1 g2 g3 g4 g5 g6 g7 g8 g9
    refine ey_iinc (cd_217 rfl) mt_217 rfl g9 ?_
    refine ey_goto (cd_217 rfl) rfl ?_
    cases e
    exact K (jup lv 9 (jI (x9 + 1))) g0 g1 g2 g3 g4 g5 g6 g7 (jup_pi (lv := lv) (j := 8) (v := jI (x9 + 1)) (z := x8) g8) rfl
theorem jk_217_l167 {L : Nat} {xs : Nat → Int32} {b : jH} (hb : 152 ≤ b.1) (h6 : b.1 ≤ 1000000) {x1 : Int} {x2 : Int} {x3 : Int} {x4 : Int} {x5 : Int} {x6 : Int} {x7 : Int} {x8 : Int} {x9 : Int} {m : jM} {x : jM} {r : mm_R} (e : jd_217_l167 x1 x2 x3 x4 x5 x6 x7 x8 x9 m = some x) (K : (∀ lv : jL, lv 0 = some (jR (some 76)) → lv 1 = some (jI x1) → lv 2 = some (jI x2) → lv 3 = some (jI x3) → lv 4 = some (jI x4) → ey (mm_xt L xs) 2 217 255 lv [] (jhm b x) r)) : ∀ lv : jL, lv 0 = some (jR (some 76)) → lv 1 = some (jI x1) → lv 2 = some (jI x2) → lv 3 = some (jI x3) → lv 4 = some (jI x4) → lv 5 = some (jI x5) → lv 6 = some (jI x6) → lv 7 = some (jI x7) → lv 8 = some (jI x8) → lv 9 = some (jI x9) → ey (mm_xt L xs) 2 217 167 lv [] (jhm b m) r := by
  unfold jd_217_l167 at e
  exact jlp_ok2 (P := fun s => ∀ lv : jL, lv 0 = some (jR (some 76)) → lv 1 = some (jI x1) → lv 2 = some (jI x2) → lv 3 = some (jI x3) → lv 4 = some (jI x4) → lv 5 = some (jI x5) → lv 6 = some (jI x6) → lv 7 = some (jI x7) → lv 8 = some (jI x8) → lv 9 = some (jI s.1) → ey (mm_xt L xs) 2 217 167 lv [] (jhm b s.2) r) (Q := fun x => (∀ lv : jL, lv 0 = some (jR (some 76)) → lv 1 = some (jI x1) → lv 2 = some (jI x2) → lv 3 = some (jI x3) → lv 4 = some (jI x4) → ey (mm_xt L xs) 2 217 255 lv [] (jhm b x) r)) (fun s q hq hk => jk_217_s167 hb h6 hq hk) jfu _ x e K
set_option maxRecDepth 100000 in
theorem jk_217_s104 {L : Nat} {xs : Nat → Int32} {b : jH} (hb : 152 ≤ b.1) (h6 : b.1 ≤ 1000000) {x1 : Int} {x2 : Int} {x3 : Int} {x4 : Int} {m : jM} {o : ((Int × jM) ⊕ jM)} {r : mm_R} (e : jd_217_s104 x1 x2 x3 x4 m = some o) (K : jsm (fun s => (∀ lv : jL, lv 0 = some (jR (some 76)) → lv 1 = some (jI x1) → lv 2 = some (jI x2) → lv 3 = some (jI x3) → lv 4 = some (jI s.1) → ey (mm_xt L xs) 2 217 104 lv [] (jhm b s.2) r)) (fun x => (∀ lv : jL, lv 0 = some (jR (some 76)) → ey (mm_xt L xs) 2 217 261 lv [] (jhm b x) r)) o) : ∀ lv : jL, lv 0 = some (jR (some 76)) → lv 1 = some (jI x1) → lv 2 = some (jI x2) → lv 3 = some (jI x3) → lv 4 = some (jI x4) → ey (mm_xt L xs) 2 217 104 lv [] (jhm b m) r := by
  intro lv f0 f1 f2 f3 f4
  unfold jd_217_s104 at e
  refine ey_iload (cd_217 rfl) f4 ?_
  refine ey_iconst (cd_217 rfl) ?_
  by_cases q12 : 3 ≤ (jw x4)
  · rw [if_pos q12] at e
    refine ey_cge (cd_217 rfl) rfl rfl (show jw 3 = 3 from by decide) q12 ?_
    cases e
    exact K lv f0
  · rw [if_neg q12] at e
    refine ey_nge (cd_217 rfl) rfl rfl (show jw 3 = 3 from by decide) q12 ?_
    refine ey_aload_n (cd_217 rfl) f0 ?_
    refine ey_getf_r (cd_217 rfl) mt_217 rfl rfl rfl (jhm_gr (q := 77) hb rfl) ?_
    refine ey_iload_n (cd_217 rfl) f1 ?_
    obtain ⟨v13, e14, e⟩ := jbind e
    refine ey_iald (cd_217 rfl) (jhm_ai hb h6 (by decide) rfl e14) ?_
    refine ey_iload (cd_217 rfl) f4 ?_
    refine ey_cs (s0 := [jI x4, jI v13]) (s1 := []) (st' := [jI (jd_206 v13 x4)]) (cd_217 rfl) mt_217 mt_206 rfl (by decide) rfl rfl (jsml_s rfl) rfl (mm_Runs.up (d := 1) (by decide) (ok_206 )) ?_
    refine ey_istore (cd_217 rfl) mt_217 rfl ?_
    refine ey_aload_n (cd_217 rfl) f0 ?_
    refine ey_getf_r (cd_217 rfl) mt_217 rfl rfl rfl (jhm_gr (q := 78) hb rfl) ?_
    refine ey_iload_n (cd_217 rfl) f1 ?_
    obtain ⟨v15, e16, e⟩ := jbind e
    refine ey_iald (cd_217 rfl) (jhm_ai hb h6 (by decide) rfl e16) ?_
    refine ey_iload (cd_217 rfl) (jup_pi (lv := lv) (j := 4) (v := jI (jd_206 v13 x4)) (z := x4) f4) ?_
    refine ey_cs (s0 := [jI x4, jI v15]) (s1 := []) (st' := [jI (jd_206 v15 x4)]) (cd_217 rfl) mt_217 mt_206 rfl (by decide) rfl rfl (jsml_s rfl) rfl (mm_Runs.up (d := 1) (by decide) (ok_206 )) ?_
    refine ey_istore (cd_217 rfl) mt_217 rfl ?_
    refine ey_iload (cd_217 rfl) (jup_o rfl (jup_pi (lv := lv) (j := 4) (v := jI (jd_206 v13 x4)) (z := x4) f4)) ?_
    have K37 : ∀ lv : jL, lv 0 = some (jR (some 76)) → lv 1 = some (jI x1) → lv 2 = some (jI x2) → lv 3 = some (jI x3) → lv 4 = some (jI x4) → lv 5 = some (jI (jd_206 v13 x4)) → lv 6 = some (jI (jd_206 v15 x4)) → ey (mm_xt L xs) 2 217 148 lv [jI (if (jw x4) = 0 then x2 else (jdiv x2 2))] (jhm b m) r := by
      intro lv g0 g1 g2 g3 g4 g5 g6
      obtain ⟨z17, e18, e⟩ := jbind e
      refine ey_rs (s0 := [jI (if (jw x4) = 0 then x2 else (jdiv x2 2))]) (s1 := [jI z17]) (by rw [show (if (jw x4) = 0 then x2 else (jdiv x2 2)) = z17 from Option.some.inj e18]) ?_
      refine ey_istore (cd_217 rfl) mt_217 rfl ?_
      refine ey_iload (cd_217 rfl) g4 ?_
      have K35 : ∀ lv : jL, lv 0 = some (jR (some 76)) → lv 1 = some (jI x1) → lv 2 = some (jI x2) → lv 3 = some (jI x3) → lv 4 = some (jI x4) → lv 5 = some (jI (jd_206 v13 x4)) → lv 6 = some (jI (jd_206 v15 x4)) → lv 7 = some (jI z17) → ey (mm_xt L xs) 2 217 162 lv [jI (if (jw x4) = 0 then x3 else (jdiv x3 2))] (jhm b m) r := by
        intro lv g0 g1 g2 g3 g4 g5 g6 g7
        obtain ⟨z19, e20, e⟩ := jbind e
        refine ey_rs (s0 := [jI (if (jw x4) = 0 then x3 else (jdiv x3 2))]) (s1 := [jI z19]) (by rw [show (if (jw x4) = 0 then x3 else (jdiv x3 2)) = z19 from Option.some.inj e20]) ?_
        refine ey_istore (cd_217 rfl) mt_217 rfl ?_
        refine ey_iconst (cd_217 rfl) ?_
        refine ey_istore (cd_217 rfl) mt_217 rfl ?_
        obtain ⟨x33, e34, e⟩ := jbind e
        refine jk_217_l167 hb h6 e34 ?_ (jup (jup lv 8 (jI z19)) 9 (jI 0)) g0 g1 g2 g3 g4 g5 g6 (jup_o rfl (jup_pi (lv := lv) (j := 7) (v := jI z19) (z := z17) g7)) (jup_pi (lv := (jup lv 8 (jI z19))) (j := 8) (v := jI 0) (z := z19) rfl) rfl
        intro lv g0 g1 g2 g3 g4
        refine ey_iinc (cd_217 rfl) mt_217 rfl g4 ?_
        refine ey_goto (cd_217 rfl) rfl ?_
        cases e
        exact K (jup lv 4 (jI (x4 + 1))) g0 g1 g2 (jup_pi (lv := lv) (j := 3) (v := jI (x4 + 1)) (z := x3) g3) rfl
      by_cases q36 : (jw x4) = 0
      · refine ey_yne (cd_217 rfl) rfl rfl (fun w => w q36) ?_
        refine ey_iload_n (cd_217 rfl) g3 ?_
        refine ey_goto (cd_217 rfl) rfl ?_
        exact ey_rs (s0 := [jI x3]) (s1 := [jI (if (jw x4) = 0 then x3 else (jdiv x3 2))]) (by rw [show ((if (jw x4) = 0 then x3 else (jdiv x3 2)) : Int) = x3 from (if_pos q36)]) (K35 (jup lv 7 (jI z17)) g0 g1 g2 g3 g4 g5 (jup_pi (lv := lv) (j := 6) (v := jI z17) (z := (jd_206 v15 x4)) g6) rfl)
      · refine ey_zne (cd_217 rfl) rfl rfl q36 ?_
        refine ey_iload_n (cd_217 rfl) g3 ?_
        refine ey_iconst (cd_217 rfl) ?_
        refine ey_idiv (cd_217 rfl) (by decide) ?_
        exact ey_rs (s0 := [jI (jdiv x3 2)]) (s1 := [jI (if (jw x4) = 0 then x3 else (jdiv x3 2))]) (by rw [show ((if (jw x4) = 0 then x3 else (jdiv x3 2)) : Int) = (jdiv x3 2) from (if_neg q36)]) (K35 (jup lv 7 (jI z17)) g0 g1 g2 g3 g4 g5 (jup_pi (lv := lv) (j := 6) (v := jI z17) (z := (jd_206 v15 x4)) g6) rfl)
    by_cases q38 : (jw x4) = 0
    · refine ey_yne (cd_217 rfl) rfl rfl (fun w => w q38) ?_
      refine ey_iload_n (cd_217 rfl) f2 ?_
      refine ey_goto (cd_217 rfl) rfl ?_
      exact ey_rs (s0 := [jI x2]) (s1 := [jI (if (jw x4) = 0 then x2 else (jdiv x2 2))]) (by rw [show ((if (jw x4) = 0 then x2 else (jdiv x2 2)) : Int) = x2 from (if_pos q38)]) (K37 (jup (jup lv 5 (jI (jd_206 v13 x4))) 6 (jI (jd_206 v15 x4))) f0 f1 f2 f3 (jup_o rfl (jup_pi (lv := lv) (j := 4) (v := jI (jd_206 v13 x4)) (z := x4) f4)) (jup_pi (lv := (jup lv 5 (jI (jd_206 v13 x4)))) (j := 5) (v := jI (jd_206 v15 x4)) (z := (jd_206 v13 x4)) rfl) rfl)
    · refine ey_zne (cd_217 rfl) rfl rfl q38 ?_
      refine ey_iload_n (cd_217 rfl) f2 ?_
      refine ey_iconst (cd_217 rfl) ?_
      refine ey_idiv (cd_217 rfl) (by decide) ?_
      exact ey_rs (s0 := [jI (jdiv x2 2)]) (s1 := [jI (if (jw x4) = 0 then x2 else (jdiv x2 2))]) (by rw [show ((if (jw x4) = 0 then x2 else (jdiv x2 2)) : Int) = (jdiv x2 2) from (if_neg q38)]) (K37 (jup (jup lv 5 (jI (jd_206 v13 x4))) 6 (jI (jd_206 v15 x4))) f0 f1 f2 f3 (jup_o rfl (jup_pi (lv := lv) (j := 4) (v := jI (jd_206 v13 x4)) (z := x4) f4)) (jup_pi (lv := (jup lv 5 (jI (jd_206 v13 x4)))) (j := 5) (v := jI (jd_206 v15 x4)) (z := (jd_206 v13 x4)) rfl) rfl)
theorem jk_217_l104 {L : Nat} {xs : Nat → Int32} {b : jH} (hb : 152 ≤ b.1) (h6 : b.1 ≤ 1000000) {x1 : Int} {x2 : Int} {x3 : Int} {x4 : Int} {m : jM} {x : jM} {r : mm_R} (e : jd_217_l104 x1 x2 x3 x4 m = some x) (K : (∀ lv : jL, lv 0 = some (jR (some 76)) → ey (mm_xt L xs) 2 217 261 lv [] (jhm b x) r)) : ∀ lv : jL, lv 0 = some (jR (some 76)) → lv 1 = some (jI x1) → lv 2 = some (jI x2) → lv 3 = some (jI x3) → lv 4 = some (jI x4) → ey (mm_xt L xs) 2 217 104 lv [] (jhm b m) r := by
  unfold jd_217_l104 at e
  exact jlp_ok2 (P := fun s => ∀ lv : jL, lv 0 = some (jR (some 76)) → lv 1 = some (jI x1) → lv 2 = some (jI x2) → lv 3 = some (jI x3) → lv 4 = some (jI s.1) → ey (mm_xt L xs) 2 217 104 lv [] (jhm b s.2) r) (Q := fun x => (∀ lv : jL, lv 0 = some (jR (some 76)) → ey (mm_xt L xs) 2 217 261 lv [] (jhm b x) r)) (fun s q hq hk => jk_217_s104 hb h6 hq hk) jfu _ x e K
set_option maxRecDepth 100000 in
theorem jk_217_b59 {L : Nat} {xs : Nat → Int32} {b : jH} (hb : 152 ≤ b.1) (h6 : b.1 ≤ 1000000) {x1 : Int} {x2 : Int} {x3 : Int} {y0 : Int} {m : jM} {o : (Int × jM)} (e : jd_217_b59 x1 x2 x3 y0 m = some o) : ∀ lv : jL, lv 0 = some (jR (some 76)) → lv 1 = some (jI x1) → lv 2 = some (jI x2) → lv 3 = some (jI x3) → ey (mm_xt L xs) 2 217 59 lv [jI y0, jR (some 76)] (jhm b m) (.inl (some (jcv (jI o.1)), jaH (jhm b o.2))) := by
  intro lv f0 f1 f2 f3
  unfold jd_217_b59 at e
  obtain ⟨m1, e2, e⟩ := jbind e
  refine ey_putf_i (cd_217 rfl) mt_217 rfl rfl rfl (jhm_pi' (k := 0) hb e2) ?_
  refine ey_aload_n (cd_217 rfl) f0 ?_
  refine ey_getf_i (z := (m1 76 0)) (cd_217 rfl) mt_217 rfl rfl rfl (jhm_gi hb 0) ?_
  by_cases q3 : (jw (m1 76 0)) ≤ 0
  · rw [if_pos q3] at e
    refine ey_zle (cd_217 rfl) rfl rfl q3 ?_
    refine ey_aload_n (cd_217 rfl) f0 ?_
    refine ey_getf_r (cd_217 rfl) mt_217 rfl rfl rfl (jhm_gr (q := 77) hb rfl) ?_
    refine ey_aload_n (cd_217 rfl) f0 ?_
    refine ey_getf_i (z := (m1 76 1)) (cd_217 rfl) mt_217 rfl rfl rfl (jhm_gi hb 1) ?_
    refine ey_aload_n (cd_217 rfl) f0 ?_
    refine ey_getf_r (cd_217 rfl) mt_217 rfl rfl rfl (jhm_gr (q := 77) hb rfl) ?_
    refine ey_iload_n (cd_217 rfl) f1 ?_
    obtain ⟨v4, e5, e⟩ := jbind e
    refine ey_iald (cd_217 rfl) (jhm_ai hb h6 (by decide) rfl e5) ?_
    obtain ⟨m6, e7, e⟩ := jbind e
    refine ey_iast (cd_217 rfl) (jhm_ta hb (by decide) rfl e7) ?_
    refine ey_aload_n (cd_217 rfl) f0 ?_
    refine ey_getf_r (cd_217 rfl) mt_217 rfl rfl rfl (jhm_gr (q := 78) hb rfl) ?_
    refine ey_aload_n (cd_217 rfl) f0 ?_
    refine ey_getf_i (z := (m6 76 1)) (cd_217 rfl) mt_217 rfl rfl rfl (jhm_gi hb 1) ?_
    refine ey_aload_n (cd_217 rfl) f0 ?_
    refine ey_getf_r (cd_217 rfl) mt_217 rfl rfl rfl (jhm_gr (q := 78) hb rfl) ?_
    refine ey_iload_n (cd_217 rfl) f1 ?_
    obtain ⟨v8, e9, e⟩ := jbind e
    refine ey_iald (cd_217 rfl) (jhm_ai hb h6 (by decide) rfl e9) ?_
    obtain ⟨m10, e11, e⟩ := jbind e
    refine ey_iast (cd_217 rfl) (jhm_ta hb (by decide) rfl e11) ?_
    refine ey_iconst (cd_217 rfl) ?_
    refine ey_istore (cd_217 rfl) mt_217 rfl ?_
    obtain ⟨x39, e40, e⟩ := jbind e
    refine jk_217_l104 hb h6 e40 ?_ (jup lv 4 (jI 0)) f0 f1 f2 (jup_pi (lv := lv) (j := 3) (v := jI 0) (z := x3) f3) rfl
    intro lv g0
    refine ey_aload_n (cd_217 rfl) g0 ?_
    refine ey_dup (cd_217 rfl) rfl ?_
    refine ey_getf_i (z := (x39 76 1)) (cd_217 rfl) mt_217 rfl rfl rfl (jhm_gi hb 1) ?_
    refine ey_iconst (cd_217 rfl) ?_
    refine ey_iadd (cd_217 rfl) ?_
    obtain ⟨m41, e42, e⟩ := jbind e
    refine ey_putf_i (cd_217 rfl) mt_217 rfl rfl rfl (jhm_pi' (k := 1) hb e42) ?_
    refine ey_aload_n (cd_217 rfl) g0 ?_
    refine ey_getf_i (z := (m41 76 1)) (cd_217 rfl) mt_217 rfl rfl rfl (jhm_gi hb 1) ?_
    refine ey_iconst (cd_217 rfl) ?_
    refine ey_isub (cd_217 rfl) ?_
    cases e
    exact ey_reti (cd_217 rfl) mt_217 rfl
  · rw [if_neg q3] at e
    refine ey_yle (cd_217 rfl) rfl rfl q3 ?_
    refine ey_iconst (cd_217 rfl) ?_
    cases e
    exact ey_reti (cd_217 rfl) mt_217 rfl
set_option maxRecDepth 100000 in
theorem ok_217 {L : Nat} {xs : Nat → Int32} {b : jH} (hb : 152 ≤ b.1) (h6 : b.1 ≤ 1000000) {p0 : Int} {p1 : Int} {p2 : Int} {m : jM} {o : (Int × jM)} (e : jd_217 p0 p1 p2 m = some o) : mm_Runs (mm_xt L xs) 3 217 ([jR (some 76), jI p0, jI p1, jI p2].map jcv) (jaH (jhm b m)) (.inl (some (jcv (jI o.1)), jaH (jhm b o.2))) := by
  refine ey_run0 _ mt_217 (jsl_s rfl) ?_
  unfold jd_217 at e
  refine ey_aload_n (cd_217 rfl) rfl ?_
  refine ey_aload_n (cd_217 rfl) rfl ?_
  refine ey_iload_n (cd_217 rfl) rfl ?_
  refine ey_cv (s0 := [jI p0, jR (some 76), jR (some 76)]) (s1 := [jR (some 76)]) (st' := [jI (jd_210 p0 m), jR (some 76)]) (cd_217 rfl) mt_217 mt_210 rfl rfl rfl (jhm_is hb) rfl (jsml_s rfl) rfl (ok_210 hb h6 ) ?_
  have K43 : ∀ lv : jL, lv 0 = some (jR (some 76)) → lv 1 = some (jI p0) → lv 2 = some (jI p1) → lv 3 = some (jI p2) → ey (mm_xt L xs) 2 217 59 lv [jI (if (jw (jd_210 p0 m)) = 0 then 1 else (if (jw (jd_204 (jw p1) (-1000) 1000)) = 0 then 2 else (if (jw (jd_204 (jw p2) (-1000) 1000)) = 0 then 2 else (if (jw (m 76 1)) = 60 then 3 else 0)))), jR (some 76)] (jhm b m) (.inl (some (jcv (jI o.1)), jaH (jhm b o.2))) := by
    intro lv g0 g1 g2 g3
    exact jk_217_b59 hb h6 e lv g0 g1 g2 g3
  by_cases q44 : (jw (jd_210 p0 m)) = 0
  · refine ey_yne (cd_217 rfl) rfl rfl (fun w => w q44) ?_
    refine ey_iconst (cd_217 rfl) ?_
    refine ey_goto (cd_217 rfl) rfl ?_
    exact ey_rs (s0 := [jI 1, jR (some 76)]) (s1 := [jI (if (jw (jd_210 p0 m)) = 0 then 1 else (if (jw (jd_204 (jw p1) (-1000) 1000)) = 0 then 2 else (if (jw (jd_204 (jw p2) (-1000) 1000)) = 0 then 2 else (if (jw (m 76 1)) = 60 then 3 else 0)))), jR (some 76)]) (by rw [show ((if (jw (jd_210 p0 m)) = 0 then 1 else (if (jw (jd_204 (jw p1) (-1000) 1000)) = 0 then 2 else (if (jw (jd_204 (jw p2) (-1000) 1000)) = 0 then 2 else (if (jw (m 76 1)) = 60 then 3 else 0)))) : Int) = 1 from (if_pos q44)]) (K43 (jlf (jla 0 [jR (some 76), jI p0, jI p1, jI p2])) rfl rfl rfl rfl)
  · refine ey_zne (cd_217 rfl) rfl rfl q44 ?_
    refine ey_iload_n (cd_217 rfl) rfl ?_
    refine ey_i2l (cd_217 rfl) ?_
    refine ey_ldc2 (z := (-1000)) (cd_217 rfl) mt_217 rfl (by decide) ?_
    refine ey_ldc2 (z := 1000) (cd_217 rfl) mt_217 rfl (by decide) ?_
    refine ey_cs (s0 := [jJ 1000, jJ (-1000), jJ (jw p1), jR (some 76)]) (s1 := [jR (some 76)]) (st' := [jI (jd_204 (jw p1) (-1000) 1000), jR (some 76)]) (cd_217 rfl) mt_217 mt_204 rfl (by decide) rfl rfl (jsml_s rfl) rfl (mm_Runs.up (d := 1) (by decide) (ok_204 )) ?_
    by_cases q45 : (jw (jd_204 (jw p1) (-1000) 1000)) = 0
    · refine ey_zeq (cd_217 rfl) rfl rfl q45 ?_
      refine ey_iconst (cd_217 rfl) ?_
      refine ey_goto (cd_217 rfl) rfl ?_
      exact ey_rs (s0 := [jI 2, jR (some 76)]) (s1 := [jI (if (jw (jd_210 p0 m)) = 0 then 1 else (if (jw (jd_204 (jw p1) (-1000) 1000)) = 0 then 2 else (if (jw (jd_204 (jw p2) (-1000) 1000)) = 0 then 2 else (if (jw (m 76 1)) = 60 then 3 else 0)))), jR (some 76)]) (by rw [show ((if (jw (jd_210 p0 m)) = 0 then 1 else (if (jw (jd_204 (jw p1) (-1000) 1000)) = 0 then 2 else (if (jw (jd_204 (jw p2) (-1000) 1000)) = 0 then 2 else (if (jw (m 76 1)) = 60 then 3 else 0)))) : Int) = 2 from ((if_neg q44).trans (if_pos q45))]) (K43 (jlf (jla 0 [jR (some 76), jI p0, jI p1, jI p2])) rfl rfl rfl rfl)
    · refine ey_yeq (cd_217 rfl) rfl rfl q45 ?_
      refine ey_iload_n (cd_217 rfl) rfl ?_
      refine ey_i2l (cd_217 rfl) ?_
      refine ey_ldc2 (z := (-1000)) (cd_217 rfl) mt_217 rfl (by decide) ?_
      refine ey_ldc2 (z := 1000) (cd_217 rfl) mt_217 rfl (by decide) ?_
      refine ey_cs (s0 := [jJ 1000, jJ (-1000), jJ (jw p2), jR (some 76)]) (s1 := [jR (some 76)]) (st' := [jI (jd_204 (jw p2) (-1000) 1000), jR (some 76)]) (cd_217 rfl) mt_217 mt_204 rfl (by decide) rfl rfl (jsml_s rfl) rfl (mm_Runs.up (d := 1) (by decide) (ok_204 )) ?_
      by_cases q46 : (jw (jd_204 (jw p2) (-1000) 1000)) = 0
      · refine ey_yne (cd_217 rfl) rfl rfl (fun w => w q46) ?_
        refine ey_iconst (cd_217 rfl) ?_
        refine ey_goto (cd_217 rfl) rfl ?_
        exact ey_rs (s0 := [jI 2, jR (some 76)]) (s1 := [jI (if (jw (jd_210 p0 m)) = 0 then 1 else (if (jw (jd_204 (jw p1) (-1000) 1000)) = 0 then 2 else (if (jw (jd_204 (jw p2) (-1000) 1000)) = 0 then 2 else (if (jw (m 76 1)) = 60 then 3 else 0)))), jR (some 76)]) (by rw [show ((if (jw (jd_210 p0 m)) = 0 then 1 else (if (jw (jd_204 (jw p1) (-1000) 1000)) = 0 then 2 else (if (jw (jd_204 (jw p2) (-1000) 1000)) = 0 then 2 else (if (jw (m 76 1)) = 60 then 3 else 0)))) : Int) = 2 from ((if_neg q44).trans ((if_neg q45).trans (if_pos q46)))]) (K43 (jlf (jla 0 [jR (some 76), jI p0, jI p1, jI p2])) rfl rfl rfl rfl)
      · refine ey_zne (cd_217 rfl) rfl rfl q46 ?_
        refine ey_aload_n (cd_217 rfl) rfl ?_
        refine ey_getf_i (z := (m 76 1)) (cd_217 rfl) mt_217 rfl rfl rfl (jhm_gi hb 1) ?_
        refine ey_bipush (cd_217 rfl) (by decide) ?_
        by_cases q47 : (jw (m 76 1)) = 60
        · refine ey_nne (cd_217 rfl) rfl rfl (show jw 60 = 60 from by decide) (fun w => w q47) ?_
          refine ey_iconst (cd_217 rfl) ?_
          refine ey_goto (cd_217 rfl) rfl ?_
          exact ey_rs (s0 := [jI 3, jR (some 76)]) (s1 := [jI (if (jw (jd_210 p0 m)) = 0 then 1 else (if (jw (jd_204 (jw p1) (-1000) 1000)) = 0 then 2 else (if (jw (jd_204 (jw p2) (-1000) 1000)) = 0 then 2 else (if (jw (m 76 1)) = 60 then 3 else 0)))), jR (some 76)]) (by rw [show ((if (jw (jd_210 p0 m)) = 0 then 1 else (if (jw (jd_204 (jw p1) (-1000) 1000)) = 0 then 2 else (if (jw (jd_204 (jw p2) (-1000) 1000)) = 0 then 2 else (if (jw (m 76 1)) = 60 then 3 else 0)))) : Int) = 3 from ((if_neg q44).trans ((if_neg q45).trans ((if_neg q46).trans (if_pos q47))))]) (K43 (jlf (jla 0 [jR (some 76), jI p0, jI p1, jI p2])) rfl rfl rfl rfl)
        · refine ey_cne (cd_217 rfl) rfl rfl (show jw 60 = 60 from by decide) q47 ?_
          refine ey_iconst (cd_217 rfl) ?_
          exact ey_rs (s0 := [jI 0, jR (some 76)]) (s1 := [jI (if (jw (jd_210 p0 m)) = 0 then 1 else (if (jw (jd_204 (jw p1) (-1000) 1000)) = 0 then 2 else (if (jw (jd_204 (jw p2) (-1000) 1000)) = 0 then 2 else (if (jw (m 76 1)) = 60 then 3 else 0)))), jR (some 76)]) (by rw [show ((if (jw (jd_210 p0 m)) = 0 then 1 else (if (jw (jd_204 (jw p1) (-1000) 1000)) = 0 then 2 else (if (jw (jd_204 (jw p2) (-1000) 1000)) = 0 then 2 else (if (jw (m 76 1)) = 60 then 3 else 0)))) : Int) = 0 from ((if_neg q44).trans ((if_neg q45).trans ((if_neg q46).trans (if_neg q47))))]) (K43 (jlf (jla 0 [jR (some 76), jI p0, jI p1, jI p2])) rfl rfl rfl rfl)
theorem cd_218 {pc : Nat} {i : Instr × Nat} (h : mm_lk mm_c218 pc = some i) : mm_cd 218 pc = some i := h
theorem mt_218 : mm_MT 218 = (12, 5, some .boolean, 4, 0, []) := rfl
set_option maxRecDepth 100000 in
theorem jk_218_b64 {L : Nat} {xs : Nat → Int32} {b : jH} (hb : 152 ≤ b.1) (h6 : b.1 ≤ 1000000)  {m : jM} {o : Int} (e : jd_218_b64  m = some o) : ∀ lv : jL, ey (mm_xt L xs) 2 218 64 lv [] (jhm b m) (.inl (some (jcv (jI o)), jaH (jhm b m))) := by
  intro lv 
  unfold jd_218_b64 at e
  refine ey_iconst (cd_218 rfl) ?_
  cases e
  exact ey_retz (cd_218 rfl) mt_218 rfl (Or.inl rfl)
set_option maxRecDepth 100000 in
theorem jk_218_b65 {L : Nat} {xs : Nat → Int32} {b : jH} (hb : 152 ≤ b.1) (h6 : b.1 ≤ 1000000) {y0 : Int} {m : jM} {o : Int} (e : jd_218_b65 y0 m = some o) : ∀ lv : jL, ey (mm_xt L xs) 2 218 65 lv [jI y0] (jhm b m) (.inl (some (jcv (jI o)), jaH (jhm b m))) := by
  intro lv 
  unfold jd_218_b65 at e
  obtain ⟨u8, e9, e⟩ := jbind e
  cases e
  exact ey_retz (cd_218 rfl) mt_218 rfl (jbc_s e9)
set_option maxRecDepth 100000 in
theorem ok_218 {L : Nat} {xs : Nat → Int32} {b : jH} (hb : 152 ≤ b.1) (h6 : b.1 ≤ 1000000) {p0 : Int} {p1 : Int} {p2 : Int} {p3 : Int} {m : jM} {o : Int} (e : jd_218 p0 p1 p2 p3 m = some o) : mm_Runs (mm_xt L xs) 3 218 ([jR (some 76), jI p0, jI p1, jI p2, jI p3].map jcv) (jaH (jhm b m)) (.inl (some (jcv (jI o)), jaH (jhm b m))) := by
  refine ey_run0 _ mt_218 (jsl_s rfl) ?_
  unfold jd_218 at e
  refine ey_aload_n (cd_218 rfl) rfl ?_
  refine ey_iload_n (cd_218 rfl) rfl ?_
  refine ey_cv (s0 := [jI p0, jR (some 76)]) (s1 := []) (st' := [jI (jd_210 p0 m)]) (cd_218 rfl) mt_218 mt_210 rfl rfl rfl (jhm_is hb) rfl (jsml_s rfl) rfl (ok_210 hb h6 ) ?_
  by_cases q1 : (jw (jd_210 p0 m)) = 0
  · rw [if_pos q1] at e
    refine ey_zeq (cd_218 rfl) rfl rfl q1 ?_
    exact jk_218_b64 hb h6 e (jlf (jla 0 [jR (some 76), jI p0, jI p1, jI p2, jI p3])) 
  · rw [if_neg q1] at e
    refine ey_yeq (cd_218 rfl) rfl rfl q1 ?_
    refine ey_iload_n (cd_218 rfl) rfl ?_
    refine ey_cs (s0 := [jI p1]) (s1 := []) (st' := [jI (jd_211 p1)]) (cd_218 rfl) mt_218 mt_211 rfl (by decide) rfl rfl (jsml_s rfl) rfl (ok_211 ) ?_
    by_cases q2 : (jw (jd_211 p1)) = 0
    · rw [if_pos q2] at e
      refine ey_zeq (cd_218 rfl) rfl rfl q2 ?_
      exact jk_218_b64 hb h6 e (jlf (jla 0 [jR (some 76), jI p0, jI p1, jI p2, jI p3])) 
    · rw [if_neg q2] at e
      refine ey_yeq (cd_218 rfl) rfl rfl q2 ?_
      refine ey_iload_n (cd_218 rfl) rfl ?_
      refine ey_i2l (cd_218 rfl) ?_
      refine ey_lconst0 (cd_218 rfl) ?_
      refine ey_aload_n (cd_218 rfl) rfl ?_
      refine ey_getf_r (cd_218 rfl) mt_218 rfl rfl rfl (jhm_gr (q := 77) hb rfl) ?_
      refine ey_iload_n (cd_218 rfl) rfl ?_
      obtain ⟨v3, e4, e⟩ := jbind e
      refine ey_iald (cd_218 rfl) (jhm_ai hb h6 (by decide) rfl e4) ?_
      refine ey_iload_n (cd_218 rfl) rfl ?_
      refine ey_cs (s0 := [jI p1, jI v3, jJ 0, jJ (jw p2)]) (s1 := [jJ 0, jJ (jw p2)]) (st' := [jI (jd_206 v3 p1), jJ 0, jJ (jw p2)]) (cd_218 rfl) mt_218 mt_206 rfl (by decide) rfl rfl (jsml_s rfl) rfl (mm_Runs.up (d := 1) (by decide) (ok_206 )) ?_
      refine ey_iconst (cd_218 rfl) ?_
      refine ey_isub (cd_218 rfl) ?_
      refine ey_i2l (cd_218 rfl) ?_
      refine ey_cs (s0 := [jJ (jw ((jd_206 v3 p1) - 1)), jJ 0, jJ (jw p2)]) (s1 := []) (st' := [jI (jd_204 (jw p2) 0 (jw ((jd_206 v3 p1) - 1)))]) (cd_218 rfl) mt_218 mt_204 rfl (by decide) rfl rfl (jsml_s rfl) rfl (mm_Runs.up (d := 1) (by decide) (ok_204 )) ?_
      by_cases q5 : (jw (jd_204 (jw p2) 0 (jw ((jd_206 v3 p1) - 1)))) = 0
      · rw [if_pos q5] at e
        refine ey_zeq (cd_218 rfl) rfl rfl q5 ?_
        exact jk_218_b64 hb h6 e (jlf (jla 0 [jR (some 76), jI p0, jI p1, jI p2, jI p3])) 
      · rw [if_neg q5] at e
        refine ey_yeq (cd_218 rfl) rfl rfl q5 ?_
        refine ey_iload (cd_218 rfl) rfl ?_
        refine ey_i2l (cd_218 rfl) ?_
        refine ey_lconst0 (cd_218 rfl) ?_
        refine ey_aload_n (cd_218 rfl) rfl ?_
        refine ey_getf_r (cd_218 rfl) mt_218 rfl rfl rfl (jhm_gr (q := 78) hb rfl) ?_
        refine ey_iload_n (cd_218 rfl) rfl ?_
        obtain ⟨v6, e7, e⟩ := jbind e
        refine ey_iald (cd_218 rfl) (jhm_ai hb h6 (by decide) rfl e7) ?_
        refine ey_iload_n (cd_218 rfl) rfl ?_
        refine ey_cs (s0 := [jI p1, jI v6, jJ 0, jJ (jw p3)]) (s1 := [jJ 0, jJ (jw p3)]) (st' := [jI (jd_206 v6 p1), jJ 0, jJ (jw p3)]) (cd_218 rfl) mt_218 mt_206 rfl (by decide) rfl rfl (jsml_s rfl) rfl (mm_Runs.up (d := 1) (by decide) (ok_206 )) ?_
        refine ey_iconst (cd_218 rfl) ?_
        refine ey_isub (cd_218 rfl) ?_
        refine ey_i2l (cd_218 rfl) ?_
        refine ey_cs (s0 := [jJ (jw ((jd_206 v6 p1) - 1)), jJ 0, jJ (jw p3)]) (s1 := []) (st' := [jI (jd_204 (jw p3) 0 (jw ((jd_206 v6 p1) - 1)))]) (cd_218 rfl) mt_218 mt_204 rfl (by decide) rfl rfl (jsml_s rfl) rfl (mm_Runs.up (d := 1) (by decide) (ok_204 )) ?_
        have K10 : ∀ lv : jL, ey (mm_xt L xs) 2 218 65 lv [jI (if (jw (jd_204 (jw p3) 0 (jw ((jd_206 v6 p1) - 1)))) = 0 then 0 else 1)] (jhm b m) (.inl (some (jcv (jI o)), jaH (jhm b m))) := by
          intro lv 
          exact jk_218_b65 hb h6 e lv 
        by_cases q11 : (jw (jd_204 (jw p3) 0 (jw ((jd_206 v6 p1) - 1)))) = 0
        · refine ey_zeq (cd_218 rfl) rfl rfl q11 ?_
          refine ey_iconst (cd_218 rfl) ?_
          exact ey_rs (s0 := [jI 0]) (s1 := [jI (if (jw (jd_204 (jw p3) 0 (jw ((jd_206 v6 p1) - 1)))) = 0 then 0 else 1)]) (by rw [show ((if (jw (jd_204 (jw p3) 0 (jw ((jd_206 v6 p1) - 1)))) = 0 then 0 else 1) : Int) = 0 from (if_pos q11)]) (K10 (jlf (jla 0 [jR (some 76), jI p0, jI p1, jI p2, jI p3])) )
        · refine ey_yeq (cd_218 rfl) rfl rfl q11 ?_
          refine ey_iconst (cd_218 rfl) ?_
          refine ey_goto (cd_218 rfl) rfl ?_
          exact ey_rs (s0 := [jI 1]) (s1 := [jI (if (jw (jd_204 (jw p3) 0 (jw ((jd_206 v6 p1) - 1)))) = 0 then 0 else 1)]) (by rw [show ((if (jw (jd_204 (jw p3) 0 (jw ((jd_206 v6 p1) - 1)))) = 0 then 0 else 1) : Int) = 1 from (if_neg q11)]) (K10 (jlf (jla 0 [jR (some 76), jI p0, jI p1, jI p2, jI p3])) )
theorem cd_219 {pc : Nat} {i : Instr × Nat} (h : mm_lk mm_c219 pc = some i) : mm_cd 219 pc = some i := h
theorem mt_219 : mm_MT 219 = (12, 7, some .int, 5, 0, []) := rfl
set_option maxRecDepth 100000 in
theorem jk_219_b35 {L : Nat} {xs : Nat → Int32} {b : jH} (hb : 152 ≤ b.1) (h6 : b.1 ≤ 1000000) {x1 : Int} {x2 : Int} {x3 : Int} {x4 : Int} {x5 : Int} {y0 : Int} {m : jM} {o : (Int × jM)} (e : jd_219_b35 x1 x2 x3 x4 x5 y0 m = some o) : ∀ lv : jL, lv 0 = some (jR (some 76)) → lv 1 = some (jI x1) → lv 2 = some (jI x2) → lv 3 = some (jI x3) → lv 4 = some (jI x4) → lv 5 = some (jI x5) → ey (mm_xt L xs) 3 219 35 lv [jI y0, jR (some 76)] (jhm b m) (.inl (some (jcv (jI o.1)), jaH (jhm b o.2))) := by
  intro lv f0 f1 f2 f3 f4 f5
  unfold jd_219_b35 at e
  obtain ⟨m3, e4, e⟩ := jbind e
  refine ey_putf_i (cd_219 rfl) mt_219 rfl rfl rfl (jhm_pi' (k := 0) hb e4) ?_
  refine ey_aload_n (cd_219 rfl) f0 ?_
  refine ey_getf_i (z := (m3 76 0)) (cd_219 rfl) mt_219 rfl rfl rfl (jhm_gi hb 0) ?_
  by_cases q5 : (jw (m3 76 0)) ≤ 0
  · rw [if_pos q5] at e
    refine ey_zle (cd_219 rfl) rfl rfl q5 ?_
    refine ey_aload_n (cd_219 rfl) f0 ?_
    refine ey_getf_r (cd_219 rfl) mt_219 rfl rfl rfl (jhm_gr (q := 79) hb rfl) ?_
    refine ey_aload_n (cd_219 rfl) f0 ?_
    refine ey_iload_n (cd_219 rfl) f1 ?_
    refine ey_iload_n (cd_219 rfl) f2 ?_
    refine ey_iload_n (cd_219 rfl) f3 ?_
    refine ey_iload (cd_219 rfl) f4 ?_
    obtain ⟨v6, e7, e⟩ := jbind e
    refine ey_cv (s0 := [jI x4, jI x3, jI x2, jI x1, jR (some 76), jR (some 79)]) (s1 := [jR (some 79)]) (st' := [jI v6, jR (some 79)]) (cd_219 rfl) mt_219 mt_212 rfl rfl rfl (jhm_is hb) rfl (jsml_s rfl) rfl (mm_Runs.up (d := 2) (by decide) (ok_212 hb h6 e7)) ?_
    obtain ⟨v8, e9, e⟩ := jbind e
    refine ey_iald (cd_219 rfl) (jhm_ai hb h6 (by decide) rfl e9) ?_
    refine ey_istore (cd_219 rfl) mt_219 rfl ?_
    refine ey_aload_n (cd_219 rfl) f0 ?_
    refine ey_getf_r (cd_219 rfl) mt_219 rfl rfl rfl (jhm_gr (q := 79) hb rfl) ?_
    refine ey_aload_n (cd_219 rfl) f0 ?_
    refine ey_iload_n (cd_219 rfl) f1 ?_
    refine ey_iload_n (cd_219 rfl) f2 ?_
    refine ey_iload_n (cd_219 rfl) f3 ?_
    refine ey_iload (cd_219 rfl) f4 ?_
    obtain ⟨v10, e11, e⟩ := jbind e
    refine ey_cv (s0 := [jI x4, jI x3, jI x2, jI x1, jR (some 76), jR (some 79)]) (s1 := [jR (some 79)]) (st' := [jI v10, jR (some 79)]) (cd_219 rfl) mt_219 mt_212 rfl rfl rfl (jhm_is hb) rfl (jsml_s rfl) rfl (mm_Runs.up (d := 2) (by decide) (ok_212 hb h6 e11)) ?_
    refine ey_iload (cd_219 rfl) (jup_pi (lv := lv) (j := 5) (v := jI v8) (z := x5) f5) ?_
    obtain ⟨m12, e13, e⟩ := jbind e
    refine ey_iast (cd_219 rfl) (jhm_ta hb (by decide) rfl e13) ?_
    refine ey_iload (cd_219 rfl) rfl ?_
    cases e
    exact ey_reti (cd_219 rfl) mt_219 rfl
  · rw [if_neg q5] at e
    refine ey_yle (cd_219 rfl) rfl rfl q5 ?_
    refine ey_iconst (cd_219 rfl) ?_
    cases e
    exact ey_reti (cd_219 rfl) mt_219 rfl
set_option maxRecDepth 100000 in
theorem ok_219 {L : Nat} {xs : Nat → Int32} {b : jH} (hb : 152 ≤ b.1) (h6 : b.1 ≤ 1000000) {p0 : Int} {p1 : Int} {p2 : Int} {p3 : Int} {p4 : Int} {m : jM} {o : (Int × jM)} (e : jd_219 p0 p1 p2 p3 p4 m = some o) : mm_Runs (mm_xt L xs) 4 219 ([jR (some 76), jI p0, jI p1, jI p2, jI p3, jI p4].map jcv) (jaH (jhm b m)) (.inl (some (jcv (jI o.1)), jaH (jhm b o.2))) := by
  refine ey_run0 _ mt_219 (jsl_s rfl) ?_
  unfold jd_219 at e
  refine ey_aload_n (cd_219 rfl) rfl ?_
  refine ey_aload_n (cd_219 rfl) rfl ?_
  refine ey_iload_n (cd_219 rfl) rfl ?_
  refine ey_iload_n (cd_219 rfl) rfl ?_
  refine ey_iload_n (cd_219 rfl) rfl ?_
  refine ey_iload (cd_219 rfl) rfl ?_
  obtain ⟨v1, e2, e⟩ := jbind e
  refine ey_cv (s0 := [jI p3, jI p2, jI p1, jI p0, jR (some 76), jR (some 76)]) (s1 := [jR (some 76)]) (st' := [jI v1, jR (some 76)]) (cd_219 rfl) mt_219 mt_218 rfl rfl rfl (jhm_is hb) rfl (jsml_s rfl) rfl (ok_218 hb h6 e2) ?_
  have K14 : ∀ lv : jL, lv 0 = some (jR (some 76)) → lv 1 = some (jI p0) → lv 2 = some (jI p1) → lv 3 = some (jI p2) → lv 4 = some (jI p3) → lv 5 = some (jI p4) → ey (mm_xt L xs) 3 219 35 lv [jI (if (jw v1) = 0 then 1 else (if (jw (jd_204 (jw p4) 0 255)) = 0 then 2 else 0)), jR (some 76)] (jhm b m) (.inl (some (jcv (jI o.1)), jaH (jhm b o.2))) := by
    intro lv g0 g1 g2 g3 g4 g5
    exact jk_219_b35 hb h6 e lv g0 g1 g2 g3 g4 g5
  by_cases q15 : (jw v1) = 0
  · refine ey_yne (cd_219 rfl) rfl rfl (fun w => w q15) ?_
    refine ey_iconst (cd_219 rfl) ?_
    refine ey_goto (cd_219 rfl) rfl ?_
    exact ey_rs (s0 := [jI 1, jR (some 76)]) (s1 := [jI (if (jw v1) = 0 then 1 else (if (jw (jd_204 (jw p4) 0 255)) = 0 then 2 else 0)), jR (some 76)]) (by rw [show ((if (jw v1) = 0 then 1 else (if (jw (jd_204 (jw p4) 0 255)) = 0 then 2 else 0)) : Int) = 1 from (if_pos q15)]) (K14 (jlf (jla 0 [jR (some 76), jI p0, jI p1, jI p2, jI p3, jI p4])) rfl rfl rfl rfl rfl rfl)
  · refine ey_zne (cd_219 rfl) rfl rfl q15 ?_
    refine ey_iload (cd_219 rfl) rfl ?_
    refine ey_i2l (cd_219 rfl) ?_
    refine ey_lconst0 (cd_219 rfl) ?_
    refine ey_ldc2 (z := 255) (cd_219 rfl) mt_219 rfl (by decide) ?_
    refine ey_cs (s0 := [jJ 255, jJ 0, jJ (jw p4), jR (some 76)]) (s1 := [jR (some 76)]) (st' := [jI (jd_204 (jw p4) 0 255), jR (some 76)]) (cd_219 rfl) mt_219 mt_204 rfl (by decide) rfl rfl (jsml_s rfl) rfl (mm_Runs.up (d := 1) (by decide) (ok_204 )) ?_
    by_cases q16 : (jw (jd_204 (jw p4) 0 255)) = 0
    · refine ey_yne (cd_219 rfl) rfl rfl (fun w => w q16) ?_
      refine ey_iconst (cd_219 rfl) ?_
      refine ey_goto (cd_219 rfl) rfl ?_
      exact ey_rs (s0 := [jI 2, jR (some 76)]) (s1 := [jI (if (jw v1) = 0 then 1 else (if (jw (jd_204 (jw p4) 0 255)) = 0 then 2 else 0)), jR (some 76)]) (by rw [show ((if (jw v1) = 0 then 1 else (if (jw (jd_204 (jw p4) 0 255)) = 0 then 2 else 0)) : Int) = 2 from ((if_neg q15).trans (if_pos q16))]) (K14 (jlf (jla 0 [jR (some 76), jI p0, jI p1, jI p2, jI p3, jI p4])) rfl rfl rfl rfl rfl rfl)
    · refine ey_zne (cd_219 rfl) rfl rfl q16 ?_
      refine ey_iconst (cd_219 rfl) ?_
      exact ey_rs (s0 := [jI 0, jR (some 76)]) (s1 := [jI (if (jw v1) = 0 then 1 else (if (jw (jd_204 (jw p4) 0 255)) = 0 then 2 else 0)), jR (some 76)]) (by rw [show ((if (jw v1) = 0 then 1 else (if (jw (jd_204 (jw p4) 0 255)) = 0 then 2 else 0)) : Int) = 0 from ((if_neg q15).trans (if_neg q16))]) (K14 (jlf (jla 0 [jR (some 76), jI p0, jI p1, jI p2, jI p3, jI p4])) rfl rfl rfl rfl rfl rfl)
theorem cd_220 {pc : Nat} {i : Instr × Nat} (h : mm_lk mm_c220 pc = some i) : mm_cd 220 pc = some i := h
theorem mt_220 : mm_MT 220 = (12, 5, some .int, 4, 0, []) := rfl
set_option maxRecDepth 100000 in
theorem jk_220_b46 {L : Nat} {xs : Nat → Int32} {b : jH} (hb : 152 ≤ b.1) (h6 : b.1 ≤ 1000000) {y0 : Int} {m : jM} {o : (Int × jM)} (e : jd_220_b46 y0 m = some o) : ∀ lv : jL, ey (mm_xt L xs) 3 220 46 lv [jI y0] (jhm b m) (.inl (some (jcv (jI o.1)), jaH (jhm b o.2))) := by
  intro lv 
  unfold jd_220_b46 at e
  cases e
  exact ey_reti (cd_220 rfl) mt_220 rfl
set_option maxRecDepth 100000 in
theorem ok_220 {L : Nat} {xs : Nat → Int32} {b : jH} (hb : 152 ≤ b.1) (h6 : b.1 ≤ 1000000) {p0 : Int} {p1 : Int} {p2 : Int} {p3 : Int} {m : jM} {o : (Int × jM)} (e : jd_220 p0 p1 p2 p3 m = some o) : mm_Runs (mm_xt L xs) 4 220 ([jR (some 76), jI p0, jI p1, jI p2, jI p3].map jcv) (jaH (jhm b m)) (.inl (some (jcv (jI o.1)), jaH (jhm b o.2))) := by
  refine ey_run0 _ mt_220 (jsl_s rfl) ?_
  unfold jd_220 at e
  refine ey_aload_n (cd_220 rfl) rfl ?_
  refine ey_aload_n (cd_220 rfl) rfl ?_
  refine ey_iload_n (cd_220 rfl) rfl ?_
  refine ey_iload_n (cd_220 rfl) rfl ?_
  refine ey_iload_n (cd_220 rfl) rfl ?_
  refine ey_iload (cd_220 rfl) rfl ?_
  obtain ⟨v1, e2, e⟩ := jbind e
  refine ey_cv (s0 := [jI p3, jI p2, jI p1, jI p0, jR (some 76), jR (some 76)]) (s1 := [jR (some 76)]) (st' := [jI v1, jR (some 76)]) (cd_220 rfl) mt_220 mt_218 rfl rfl rfl (jhm_is hb) rfl (jsml_s rfl) rfl (ok_218 hb h6 e2) ?_
  have K10 : ∀ lv : jL, lv 0 = some (jR (some 76)) → lv 1 = some (jI p0) → lv 2 = some (jI p1) → lv 3 = some (jI p2) → lv 4 = some (jI p3) → ey (mm_xt L xs) 3 220 18 lv [jI (if (jw v1) = 0 then 1 else 0), jR (some 76)] (jhm b m) (.inl (some (jcv (jI o.1)), jaH (jhm b o.2))) := by
    intro lv g0 g1 g2 g3 g4
    obtain ⟨m3, e4, e⟩ := jbind e
    refine ey_putf_i (cd_220 rfl) mt_220 rfl rfl rfl (jhm_pi' (k := 0) hb e4) ?_
    refine ey_aload_n (cd_220 rfl) g0 ?_
    refine ey_getf_i (z := (m3 76 0)) (cd_220 rfl) mt_220 rfl rfl rfl (jhm_gi hb 0) ?_
    by_cases q5 : (jw (m3 76 0)) ≤ 0
    · rw [if_pos q5] at e
      refine ey_zle (cd_220 rfl) rfl rfl q5 ?_
      refine ey_aload_n (cd_220 rfl) g0 ?_
      refine ey_getf_r (cd_220 rfl) mt_220 rfl rfl rfl (jhm_gr (q := 79) hb rfl) ?_
      refine ey_aload_n (cd_220 rfl) g0 ?_
      refine ey_iload_n (cd_220 rfl) g1 ?_
      refine ey_iload_n (cd_220 rfl) g2 ?_
      refine ey_iload_n (cd_220 rfl) g3 ?_
      refine ey_iload (cd_220 rfl) g4 ?_
      obtain ⟨v6, e7, e⟩ := jbind e
      refine ey_cv (s0 := [jI p3, jI p2, jI p1, jI p0, jR (some 76), jR (some 79)]) (s1 := [jR (some 79)]) (st' := [jI v6, jR (some 79)]) (cd_220 rfl) mt_220 mt_212 rfl rfl rfl (jhm_is hb) rfl (jsml_s rfl) rfl (mm_Runs.up (d := 2) (by decide) (ok_212 hb h6 e7)) ?_
      obtain ⟨v8, e9, e⟩ := jbind e
      refine ey_iald (cd_220 rfl) (jhm_ai hb h6 (by decide) rfl e9) ?_
      exact jk_220_b46 hb h6 e lv 
    · rw [if_neg q5] at e
      refine ey_yle (cd_220 rfl) rfl rfl q5 ?_
      refine ey_iconst (cd_220 rfl) ?_
      refine ey_goto (cd_220 rfl) rfl ?_
      exact jk_220_b46 hb h6 e lv 
  by_cases q11 : (jw v1) = 0
  · refine ey_zeq (cd_220 rfl) rfl rfl q11 ?_
    refine ey_iconst (cd_220 rfl) ?_
    exact ey_rs (s0 := [jI 1, jR (some 76)]) (s1 := [jI (if (jw v1) = 0 then 1 else 0), jR (some 76)]) (by rw [show ((if (jw v1) = 0 then 1 else 0) : Int) = 1 from (if_pos q11)]) (K10 (jlf (jla 0 [jR (some 76), jI p0, jI p1, jI p2, jI p3])) rfl rfl rfl rfl rfl)
  · refine ey_yeq (cd_220 rfl) rfl rfl q11 ?_
    refine ey_iconst (cd_220 rfl) ?_
    refine ey_goto (cd_220 rfl) rfl ?_
    exact ey_rs (s0 := [jI 0, jR (some 76)]) (s1 := [jI (if (jw v1) = 0 then 1 else 0), jR (some 76)]) (by rw [show ((if (jw v1) = 0 then 1 else 0) : Int) = 0 from (if_neg q11)]) (K10 (jlf (jla 0 [jR (some 76), jI p0, jI p1, jI p2, jI p3])) rfl rfl rfl rfl rfl)
theorem cd_221 {pc : Nat} {i : Instr × Nat} (h : mm_lk mm_c221 pc = some i) : mm_cd 221 pc = some i := h
theorem mt_221 : mm_MT 221 = (12, 3, some .int, 2, 0, []) := rfl
set_option maxRecDepth 100000 in
theorem jk_221_b61 {L : Nat} {xs : Nat → Int32} {b : jH} (hb : 152 ≤ b.1) (h6 : b.1 ≤ 1000000) {y0 : Int} {m : jM} {o : (Int × jM)} (e : jd_221_b61 y0 m = some o) : ∀ lv : jL, ey (mm_xt L xs) 2 221 61 lv [jI y0] (jhm b m) (.inl (some (jcv (jI o.1)), jaH (jhm b o.2))) := by
  intro lv 
  unfold jd_221_b61 at e
  cases e
  exact ey_reti (cd_221 rfl) mt_221 rfl
set_option maxRecDepth 100000 in
theorem jk_221_b28 {L : Nat} {xs : Nat → Int32} {b : jH} (hb : 152 ≤ b.1) (h6 : b.1 ≤ 1000000) {x1 : Int} {x2 : Int} {y0 : Int} {m : jM} {o : (Int × jM)} (e : jd_221_b28 x1 x2 y0 m = some o) : ∀ lv : jL, lv 0 = some (jR (some 76)) → lv 1 = some (jI x1) → lv 2 = some (jI x2) → ey (mm_xt L xs) 2 221 28 lv [jI y0, jR (some 76)] (jhm b m) (.inl (some (jcv (jI o.1)), jaH (jhm b o.2))) := by
  intro lv f0 f1 f2
  unfold jd_221_b28 at e
  obtain ⟨m1, e2, e⟩ := jbind e
  refine ey_putf_i (cd_221 rfl) mt_221 rfl rfl rfl (jhm_pi' (k := 0) hb e2) ?_
  refine ey_aload_n (cd_221 rfl) f0 ?_
  refine ey_getf_i (z := (m1 76 0)) (cd_221 rfl) mt_221 rfl rfl rfl (jhm_gi hb 0) ?_
  by_cases q3 : (jw (m1 76 0)) ≤ 0
  · rw [if_pos q3] at e
    refine ey_zle (cd_221 rfl) rfl rfl q3 ?_
    refine ey_iload_n (cd_221 rfl) f2 ?_
    by_cases q4 : (jw x2) = 0
    · rw [if_pos q4] at e
      refine ey_yne (cd_221 rfl) rfl rfl (fun w => w q4) ?_
      refine ey_aload_n (cd_221 rfl) f0 ?_
      refine ey_getf_r (cd_221 rfl) mt_221 rfl rfl rfl (jhm_gr (q := 77) hb rfl) ?_
      refine ey_iload_n (cd_221 rfl) f1 ?_
      obtain ⟨v5, e6, e⟩ := jbind e
      refine ey_iald (cd_221 rfl) (jhm_ai hb h6 (by decide) rfl e6) ?_
      refine ey_goto (cd_221 rfl) rfl ?_
      exact jk_221_b61 hb h6 e lv 
    · rw [if_neg q4] at e
      refine ey_zne (cd_221 rfl) rfl rfl q4 ?_
      refine ey_aload_n (cd_221 rfl) f0 ?_
      refine ey_getf_r (cd_221 rfl) mt_221 rfl rfl rfl (jhm_gr (q := 78) hb rfl) ?_
      refine ey_iload_n (cd_221 rfl) f1 ?_
      obtain ⟨v7, e8, e⟩ := jbind e
      refine ey_iald (cd_221 rfl) (jhm_ai hb h6 (by decide) rfl e8) ?_
      exact jk_221_b61 hb h6 e lv 
  · rw [if_neg q3] at e
    refine ey_yle (cd_221 rfl) rfl rfl q3 ?_
    refine ey_iconst (cd_221 rfl) ?_
    refine ey_goto (cd_221 rfl) rfl ?_
    exact jk_221_b61 hb h6 e lv 
set_option maxRecDepth 100000 in
theorem ok_221 {L : Nat} {xs : Nat → Int32} {b : jH} (hb : 152 ≤ b.1) (h6 : b.1 ≤ 1000000) {p0 : Int} {p1 : Int} {m : jM} {o : (Int × jM)} (e : jd_221 p0 p1 m = some o) : mm_Runs (mm_xt L xs) 3 221 ([jR (some 76), jI p0, jI p1].map jcv) (jaH (jhm b m)) (.inl (some (jcv (jI o.1)), jaH (jhm b o.2))) := by
  refine ey_run0 _ mt_221 (jsl_s rfl) ?_
  unfold jd_221 at e
  refine ey_aload_n (cd_221 rfl) rfl ?_
  refine ey_aload_n (cd_221 rfl) rfl ?_
  refine ey_iload_n (cd_221 rfl) rfl ?_
  refine ey_cv (s0 := [jI p0, jR (some 76), jR (some 76)]) (s1 := [jR (some 76)]) (st' := [jI (jd_210 p0 m), jR (some 76)]) (cd_221 rfl) mt_221 mt_210 rfl rfl rfl (jhm_is hb) rfl (jsml_s rfl) rfl (ok_210 hb h6 ) ?_
  have K9 : ∀ lv : jL, lv 0 = some (jR (some 76)) → lv 1 = some (jI p0) → lv 2 = some (jI p1) → ey (mm_xt L xs) 2 221 28 lv [jI (if (jw (jd_210 p0 m)) = 0 then 1 else (if (jw (jd_204 (jw p1) 0 1)) = 0 then 2 else 0)), jR (some 76)] (jhm b m) (.inl (some (jcv (jI o.1)), jaH (jhm b o.2))) := by
    intro lv g0 g1 g2
    exact jk_221_b28 hb h6 e lv g0 g1 g2
  by_cases q10 : (jw (jd_210 p0 m)) = 0
  · refine ey_yne (cd_221 rfl) rfl rfl (fun w => w q10) ?_
    refine ey_iconst (cd_221 rfl) ?_
    refine ey_goto (cd_221 rfl) rfl ?_
    exact ey_rs (s0 := [jI 1, jR (some 76)]) (s1 := [jI (if (jw (jd_210 p0 m)) = 0 then 1 else (if (jw (jd_204 (jw p1) 0 1)) = 0 then 2 else 0)), jR (some 76)]) (by rw [show ((if (jw (jd_210 p0 m)) = 0 then 1 else (if (jw (jd_204 (jw p1) 0 1)) = 0 then 2 else 0)) : Int) = 1 from (if_pos q10)]) (K9 (jlf (jla 0 [jR (some 76), jI p0, jI p1])) rfl rfl rfl)
  · refine ey_zne (cd_221 rfl) rfl rfl q10 ?_
    refine ey_iload_n (cd_221 rfl) rfl ?_
    refine ey_i2l (cd_221 rfl) ?_
    refine ey_lconst0 (cd_221 rfl) ?_
    refine ey_lconst1 (cd_221 rfl) ?_
    refine ey_cs (s0 := [jJ 1, jJ 0, jJ (jw p1), jR (some 76)]) (s1 := [jR (some 76)]) (st' := [jI (jd_204 (jw p1) 0 1), jR (some 76)]) (cd_221 rfl) mt_221 mt_204 rfl (by decide) rfl rfl (jsml_s rfl) rfl (mm_Runs.up (d := 1) (by decide) (ok_204 )) ?_
    by_cases q11 : (jw (jd_204 (jw p1) 0 1)) = 0
    · refine ey_yne (cd_221 rfl) rfl rfl (fun w => w q11) ?_
      refine ey_iconst (cd_221 rfl) ?_
      refine ey_goto (cd_221 rfl) rfl ?_
      exact ey_rs (s0 := [jI 2, jR (some 76)]) (s1 := [jI (if (jw (jd_210 p0 m)) = 0 then 1 else (if (jw (jd_204 (jw p1) 0 1)) = 0 then 2 else 0)), jR (some 76)]) (by rw [show ((if (jw (jd_210 p0 m)) = 0 then 1 else (if (jw (jd_204 (jw p1) 0 1)) = 0 then 2 else 0)) : Int) = 2 from ((if_neg q10).trans (if_pos q11))]) (K9 (jlf (jla 0 [jR (some 76), jI p0, jI p1])) rfl rfl rfl)
    · refine ey_zne (cd_221 rfl) rfl rfl q11 ?_
      refine ey_iconst (cd_221 rfl) ?_
      exact ey_rs (s0 := [jI 0, jR (some 76)]) (s1 := [jI (if (jw (jd_210 p0 m)) = 0 then 1 else (if (jw (jd_204 (jw p1) 0 1)) = 0 then 2 else 0)), jR (some 76)]) (by rw [show ((if (jw (jd_210 p0 m)) = 0 then 1 else (if (jw (jd_204 (jw p1) 0 1)) = 0 then 2 else 0)) : Int) = 0 from ((if_neg q10).trans (if_neg q11))]) (K9 (jlf (jla 0 [jR (some 76), jI p0, jI p1])) rfl rfl rfl)
theorem cd_222 {pc : Nat} {i : Instr × Nat} (h : mm_lk mm_c222 pc = some i) : mm_cd 222 pc = some i := h
theorem mt_222 : mm_MT 222 = (12, 2, some .int, 1, 0, []) := rfl
set_option maxRecDepth 100000 in
theorem ok_222 {L : Nat} {xs : Nat → Int32} {b : jH} (hb : 152 ≤ b.1) (h6 : b.1 ≤ 1000000) {p0 : Int} {m : jM} {o : (Int × jM)} (e : jd_222 p0 m = some o) : mm_Runs (mm_xt L xs) 1 222 ([jR (some 76), jI p0].map jcv) (jaH (jhm b m)) (.inl (some (jcv (jI o.1)), jaH (jhm b o.2))) := by
  refine ey_run0 _ mt_222 (jsl_s rfl) ?_
  unfold jd_222 at e
  refine ey_aload_n (cd_222 rfl) rfl ?_
  refine ey_iload_n (cd_222 rfl) rfl ?_
  have K8 : ∀ lv : jL, lv 0 = some (jR (some 76)) → lv 1 = some (jI p0) → ey (mm_xt L xs) 0 222 10 lv [jI (if 0 ≤ (jw p0) then 0 else 1), jR (some 76)] (jhm b m) (.inl (some (jcv (jI o.1)), jaH (jhm b o.2))) := by
    intro lv g0 g1
    obtain ⟨m1, e2, e⟩ := jbind e
    refine ey_putf_i (cd_222 rfl) mt_222 rfl rfl rfl (jhm_pi' (k := 0) hb e2) ?_
    refine ey_aload_n (cd_222 rfl) g0 ?_
    refine ey_getf_i (z := (m1 76 0)) (cd_222 rfl) mt_222 rfl rfl rfl (jhm_gi hb 0) ?_
    by_cases q3 : (jw (m1 76 0)) ≤ 0
    · rw [if_pos q3] at e
      refine ey_zle (cd_222 rfl) rfl rfl q3 ?_
      refine ey_aload_n (cd_222 rfl) g0 ?_
      refine ey_iload_n (cd_222 rfl) g1 ?_
      refine ey_aload_n (cd_222 rfl) g0 ?_
      refine ey_getf_i (z := (m1 76 1)) (cd_222 rfl) mt_222 rfl rfl rfl (jhm_gi hb 1) ?_
      have K6 : ∀ lv : jL, lv 0 = some (jR (some 76)) → ey (mm_xt L xs) 0 222 39 lv [jI (if (jw (m1 76 1)) ≤ (jw p0) then (m1 76 1) else p0), jR (some 76)] (jhm b m1) (.inl (some (jcv (jI o.1)), jaH (jhm b o.2))) := by
        intro lv g0
        obtain ⟨m4, e5, e⟩ := jbind e
        refine ey_putf_i (cd_222 rfl) mt_222 rfl rfl rfl (jhm_pi' (k := 1) hb e5) ?_
        refine ey_aload_n (cd_222 rfl) g0 ?_
        refine ey_getf_i (z := (m4 76 1)) (cd_222 rfl) mt_222 rfl rfl rfl (jhm_gi hb 1) ?_
        cases e
        exact ey_reti (cd_222 rfl) mt_222 rfl
      by_cases q7 : (jw (m1 76 1)) ≤ (jw p0)
      · refine ey_cge (cd_222 rfl) rfl rfl rfl q7 ?_
        refine ey_aload_n (cd_222 rfl) g0 ?_
        refine ey_getf_i (z := (m1 76 1)) (cd_222 rfl) mt_222 rfl rfl rfl (jhm_gi hb 1) ?_
        exact ey_rs (s0 := [jI (m1 76 1), jR (some 76)]) (s1 := [jI (if (jw (m1 76 1)) ≤ (jw p0) then (m1 76 1) else p0), jR (some 76)]) (by rw [show ((if (jw (m1 76 1)) ≤ (jw p0) then (m1 76 1) else p0) : Int) = (m1 76 1) from (if_pos q7)]) (K6 lv g0)
      · refine ey_nge (cd_222 rfl) rfl rfl rfl q7 ?_
        refine ey_iload_n (cd_222 rfl) g1 ?_
        refine ey_goto (cd_222 rfl) rfl ?_
        exact ey_rs (s0 := [jI p0, jR (some 76)]) (s1 := [jI (if (jw (m1 76 1)) ≤ (jw p0) then (m1 76 1) else p0), jR (some 76)]) (by rw [show ((if (jw (m1 76 1)) ≤ (jw p0) then (m1 76 1) else p0) : Int) = p0 from (if_neg q7)]) (K6 lv g0)
    · rw [if_neg q3] at e
      refine ey_yle (cd_222 rfl) rfl rfl q3 ?_
      refine ey_iconst (cd_222 rfl) ?_
      cases e
      exact ey_reti (cd_222 rfl) mt_222 rfl
  by_cases q9 : 0 ≤ (jw p0)
  · refine ey_zge (cd_222 rfl) rfl rfl q9 ?_
    refine ey_iconst (cd_222 rfl) ?_
    exact ey_rs (s0 := [jI 0, jR (some 76)]) (s1 := [jI (if 0 ≤ (jw p0) then 0 else 1), jR (some 76)]) (by rw [show ((if 0 ≤ (jw p0) then 0 else 1) : Int) = 0 from (if_pos q9)]) (K8 (jlf (jla 0 [jR (some 76), jI p0])) rfl rfl)
  · refine ey_yge (cd_222 rfl) rfl rfl q9 ?_
    refine ey_iconst (cd_222 rfl) ?_
    refine ey_goto (cd_222 rfl) rfl ?_
    exact ey_rs (s0 := [jI 1, jR (some 76)]) (s1 := [jI (if 0 ≤ (jw p0) then 0 else 1), jR (some 76)]) (by rw [show ((if 0 ≤ (jw p0) then 0 else 1) : Int) = 1 from (if_neg q9)]) (K8 (jlf (jla 0 [jR (some 76), jI p0])) rfl rfl)
theorem cd_223 {pc : Nat} {i : Instr × Nat} (h : mm_lk mm_c223 pc = some i) : mm_cd 223 pc = some i := h
theorem mt_223 : mm_MT 223 = (12, 5, some .int, 2, 0, []) := rfl
set_option maxRecDepth 100000 in
theorem jk_223_s49 {L : Nat} {xs : Nat → Int32} {b : jH} (hb : 152 ≤ b.1) (h6 : b.1 ≤ 1000000) {x1 : Int} {x3 : Int} {x4 : Int} {m : jM} {o : ((Int × jM) ⊕ jM)} {r : mm_R} (e : jd_223_s49 x1 x3 x4 m = some o) (K : jsm (fun s => (∀ lv : jL, lv 0 = some (jR (some 76)) → lv 1 = some (jJ x1) → lv 3 = some (jI x3) → lv 4 = some (jI s.1) → ey (mm_xt L xs) 1 223 49 lv [] (jhm b s.2) r)) (fun x => (∀ lv : jL, lv 0 = some (jR (some 76)) → lv 3 = some (jI x3) → ey (mm_xt L xs) 1 223 85 lv [] (jhm b x) r)) o) : ∀ lv : jL, lv 0 = some (jR (some 76)) → lv 1 = some (jJ x1) → lv 3 = some (jI x3) → lv 4 = some (jI x4) → ey (mm_xt L xs) 1 223 49 lv [] (jhm b m) r := by
  intro lv f0 f1 f3 f4
  unfold jd_223_s49 at e
  refine ey_iload (cd_223 rfl) f4 ?_
  refine ey_iload_n (cd_223 rfl) f3 ?_
  by_cases q4 : (jw x3) ≤ (jw x4)
  · rw [if_pos q4] at e
    refine ey_cge (cd_223 rfl) rfl rfl rfl q4 ?_
    cases e
    exact K lv f0 f3
  · rw [if_neg q4] at e
    refine ey_nge (cd_223 rfl) rfl rfl rfl q4 ?_
    refine ey_aload_n (cd_223 rfl) f0 ?_
    refine ey_getf_r (cd_223 rfl) mt_223 rfl rfl rfl (jhm_gr (q := 80) hb rfl) ?_
    refine ey_aload_n (cd_223 rfl) f0 ?_
    refine ey_getf_i (z := (m 76 5)) (cd_223 rfl) mt_223 rfl rfl rfl (jhm_gi hb 5) ?_
    refine ey_iload (cd_223 rfl) f4 ?_
    refine ey_iadd (cd_223 rfl) ?_
    refine ey_lload_n (cd_223 rfl) f1 ?_
    refine ey_bipush (cd_223 rfl) (by decide) ?_
    refine ey_iload (cd_223 rfl) f4 ?_
    refine ey_imul (cd_223 rfl) ?_
    refine ey_lushr (cd_223 rfl) ?_
    refine ey_ldc2 (z := 255) (cd_223 rfl) mt_223 rfl (by decide) ?_
    refine ey_land (cd_223 rfl) ?_
    refine ey_l2i (cd_223 rfl) ?_
    obtain ⟨m5, e6, e⟩ := jbind e
    refine ey_iast (cd_223 rfl) (jhm_ta hb (by decide) rfl e6) ?_
    refine ey_iinc (cd_223 rfl) mt_223 rfl f4 ?_
    refine ey_goto (cd_223 rfl) rfl ?_
    cases e
    exact K (jup lv 4 (jI (x4 + 1))) f0 f1 (jup_pi (lv := lv) (j := 3) (v := jI (x4 + 1)) (z := x3) f3) rfl
theorem jk_223_l49 {L : Nat} {xs : Nat → Int32} {b : jH} (hb : 152 ≤ b.1) (h6 : b.1 ≤ 1000000) {x1 : Int} {x3 : Int} {x4 : Int} {m : jM} {x : jM} {r : mm_R} (e : jd_223_l49 x1 x3 x4 m = some x) (K : (∀ lv : jL, lv 0 = some (jR (some 76)) → lv 3 = some (jI x3) → ey (mm_xt L xs) 1 223 85 lv [] (jhm b x) r)) : ∀ lv : jL, lv 0 = some (jR (some 76)) → lv 1 = some (jJ x1) → lv 3 = some (jI x3) → lv 4 = some (jI x4) → ey (mm_xt L xs) 1 223 49 lv [] (jhm b m) r := by
  unfold jd_223_l49 at e
  exact jlp_ok2 (P := fun s => ∀ lv : jL, lv 0 = some (jR (some 76)) → lv 1 = some (jJ x1) → lv 3 = some (jI x3) → lv 4 = some (jI s.1) → ey (mm_xt L xs) 1 223 49 lv [] (jhm b s.2) r) (Q := fun x => (∀ lv : jL, lv 0 = some (jR (some 76)) → lv 3 = some (jI x3) → ey (mm_xt L xs) 1 223 85 lv [] (jhm b x) r)) (fun s q hq hk => jk_223_s49 hb h6 hq hk) jfu _ x e K
set_option maxRecDepth 100000 in
theorem jk_223_b34 {L : Nat} {xs : Nat → Int32} {b : jH} (hb : 152 ≤ b.1) (h6 : b.1 ≤ 1000000) {x1 : Int} {x3 : Int} {y0 : Int} {m : jM} {o : (Int × jM)} (e : jd_223_b34 x1 x3 y0 m = some o) : ∀ lv : jL, lv 0 = some (jR (some 76)) → lv 1 = some (jJ x1) → lv 3 = some (jI x3) → ey (mm_xt L xs) 1 223 34 lv [jI y0, jR (some 76)] (jhm b m) (.inl (some (jcv (jI o.1)), jaH (jhm b o.2))) := by
  intro lv f0 f1 f3
  unfold jd_223_b34 at e
  obtain ⟨m1, e2, e⟩ := jbind e
  refine ey_putf_i (cd_223 rfl) mt_223 rfl rfl rfl (jhm_pi' (k := 0) hb e2) ?_
  refine ey_aload_n (cd_223 rfl) f0 ?_
  refine ey_getf_i (z := (m1 76 0)) (cd_223 rfl) mt_223 rfl rfl rfl (jhm_gi hb 0) ?_
  by_cases q3 : (jw (m1 76 0)) ≤ 0
  · rw [if_pos q3] at e
    refine ey_zle (cd_223 rfl) rfl rfl q3 ?_
    refine ey_iconst (cd_223 rfl) ?_
    refine ey_istore (cd_223 rfl) mt_223 rfl ?_
    obtain ⟨x7, e8, e⟩ := jbind e
    refine jk_223_l49 hb h6 e8 ?_ (jup lv 4 (jI 0)) f0 f1 (jup_pi (lv := lv) (j := 3) (v := jI 0) (z := x3) f3) rfl
    intro lv g0 g3
    refine ey_aload_n (cd_223 rfl) g0 ?_
    refine ey_dup (cd_223 rfl) rfl ?_
    refine ey_getf_i (z := (x7 76 5)) (cd_223 rfl) mt_223 rfl rfl rfl (jhm_gi hb 5) ?_
    refine ey_iload_n (cd_223 rfl) g3 ?_
    refine ey_iadd (cd_223 rfl) ?_
    obtain ⟨m9, e10, e⟩ := jbind e
    refine ey_putf_i (cd_223 rfl) mt_223 rfl rfl rfl (jhm_pi' (k := 5) hb e10) ?_
    refine ey_aload_n (cd_223 rfl) g0 ?_
    refine ey_getf_i (z := (m9 76 5)) (cd_223 rfl) mt_223 rfl rfl rfl (jhm_gi hb 5) ?_
    cases e
    exact ey_reti (cd_223 rfl) mt_223 rfl
  · rw [if_neg q3] at e
    refine ey_yle (cd_223 rfl) rfl rfl q3 ?_
    refine ey_iconst (cd_223 rfl) ?_
    cases e
    exact ey_reti (cd_223 rfl) mt_223 rfl
set_option maxRecDepth 100000 in
theorem ok_223 {L : Nat} {xs : Nat → Int32} {b : jH} (hb : 152 ≤ b.1) (h6 : b.1 ≤ 1000000) {p0 : Int} {p1 : Int} {m : jM} {o : (Int × jM)} (e : jd_223 p0 p1 m = some o) : mm_Runs (mm_xt L xs) 2 223 ([jR (some 76), jJ p0, jI p1].map jcv) (jaH (jhm b m)) (.inl (some (jcv (jI o.1)), jaH (jhm b o.2))) := by
  refine ey_run0 _ mt_223 (jsl_s rfl) ?_
  unfold jd_223 at e
  refine ey_aload_n (cd_223 rfl) rfl ?_
  refine ey_iload_n (cd_223 rfl) rfl ?_
  refine ey_i2l (cd_223 rfl) ?_
  refine ey_lconst1 (cd_223 rfl) ?_
  refine ey_ldc2 (z := 8) (cd_223 rfl) mt_223 rfl (by decide) ?_
  refine ey_cs (s0 := [jJ 8, jJ 1, jJ (jw p1), jR (some 76)]) (s1 := [jR (some 76)]) (st' := [jI (jd_204 (jw p1) 1 8), jR (some 76)]) (cd_223 rfl) mt_223 mt_204 rfl (by decide) rfl rfl (jsml_s rfl) rfl (ok_204 ) ?_
  have K11 : ∀ lv : jL, lv 0 = some (jR (some 76)) → lv 1 = some (jJ p0) → lv 3 = some (jI p1) → ey (mm_xt L xs) 1 223 34 lv [jI (if (jw (jd_204 (jw p1) 1 8)) = 0 then 1 else (if (jw ((m 76 5) + p1)) ≤ 4000 then 0 else 2)), jR (some 76)] (jhm b m) (.inl (some (jcv (jI o.1)), jaH (jhm b o.2))) := by
    intro lv g0 g1 g3
    exact jk_223_b34 hb h6 e lv g0 g1 g3
  by_cases q12 : (jw (jd_204 (jw p1) 1 8)) = 0
  · refine ey_yne (cd_223 rfl) rfl rfl (fun w => w q12) ?_
    refine ey_iconst (cd_223 rfl) ?_
    refine ey_goto (cd_223 rfl) rfl ?_
    exact ey_rs (s0 := [jI 1, jR (some 76)]) (s1 := [jI (if (jw (jd_204 (jw p1) 1 8)) = 0 then 1 else (if (jw ((m 76 5) + p1)) ≤ 4000 then 0 else 2)), jR (some 76)]) (by rw [show ((if (jw (jd_204 (jw p1) 1 8)) = 0 then 1 else (if (jw ((m 76 5) + p1)) ≤ 4000 then 0 else 2)) : Int) = 1 from (if_pos q12)]) (K11 (jlf (jla 0 [jR (some 76), jJ p0, jI p1])) rfl rfl rfl)
  · refine ey_zne (cd_223 rfl) rfl rfl q12 ?_
    refine ey_aload_n (cd_223 rfl) rfl ?_
    refine ey_getf_i (z := (m 76 5)) (cd_223 rfl) mt_223 rfl rfl rfl (jhm_gi hb 5) ?_
    refine ey_iload_n (cd_223 rfl) rfl ?_
    refine ey_iadd (cd_223 rfl) ?_
    refine ey_sipush (cd_223 rfl) (by decide) ?_
    by_cases q13 : (jw ((m 76 5) + p1)) ≤ 4000
    · refine ey_cle (cd_223 rfl) rfl rfl (show jw 4000 = 4000 from by decide) q13 ?_
      refine ey_iconst (cd_223 rfl) ?_
      exact ey_rs (s0 := [jI 0, jR (some 76)]) (s1 := [jI (if (jw (jd_204 (jw p1) 1 8)) = 0 then 1 else (if (jw ((m 76 5) + p1)) ≤ 4000 then 0 else 2)), jR (some 76)]) (by rw [show ((if (jw (jd_204 (jw p1) 1 8)) = 0 then 1 else (if (jw ((m 76 5) + p1)) ≤ 4000 then 0 else 2)) : Int) = 0 from ((if_neg q12).trans (if_pos q13))]) (K11 (jlf (jla 0 [jR (some 76), jJ p0, jI p1])) rfl rfl rfl)
    · refine ey_nle (cd_223 rfl) rfl rfl (show jw 4000 = 4000 from by decide) q13 ?_
      refine ey_iconst (cd_223 rfl) ?_
      refine ey_goto (cd_223 rfl) rfl ?_
      exact ey_rs (s0 := [jI 2, jR (some 76)]) (s1 := [jI (if (jw (jd_204 (jw p1) 1 8)) = 0 then 1 else (if (jw ((m 76 5) + p1)) ≤ 4000 then 0 else 2)), jR (some 76)]) (by rw [show ((if (jw (jd_204 (jw p1) 1 8)) = 0 then 1 else (if (jw ((m 76 5) + p1)) ≤ 4000 then 0 else 2)) : Int) = 2 from ((if_neg q12).trans (if_neg q13))]) (K11 (jlf (jla 0 [jR (some 76), jJ p0, jI p1])) rfl rfl rfl)
theorem cd_224 {pc : Nat} {i : Instr × Nat} (h : mm_lk mm_c224 pc = some i) : mm_cd 224 pc = some i := h
theorem mt_224 : mm_MT 224 = (12, 4, some .int, 2, 0, []) := rfl
set_option maxRecDepth 100000 in
theorem jk_224_b22 {L : Nat} {xs : Nat → Int32} {b : jH} (hb : 152 ≤ b.1) (h6 : b.1 ≤ 1000000) {x1 : Int} {x2 : Int} {y0 : Int} {m : jM} {o : (Int × jM)} (e : jd_224_b22 x1 x2 y0 m = some o) : ∀ lv : jL, lv 0 = some (jR (some 76)) → lv 1 = some (jI x1) → lv 2 = some (jI x2) → ey (mm_xt L xs) 1 224 22 lv [jI y0, jR (some 76)] (jhm b m) (.inl (some (jcv (jI o.1)), jaH (jhm b o.2))) := by
  intro lv f0 f1 f2
  unfold jd_224_b22 at e
  obtain ⟨m1, e2, e⟩ := jbind e
  refine ey_putf_i (cd_224 rfl) mt_224 rfl rfl rfl (jhm_pi' (k := 0) hb e2) ?_
  refine ey_aload_n (cd_224 rfl) f0 ?_
  refine ey_getf_i (z := (m1 76 0)) (cd_224 rfl) mt_224 rfl rfl rfl (jhm_gi hb 0) ?_
  by_cases q3 : (jw (m1 76 0)) ≤ 0
  · rw [if_pos q3] at e
    refine ey_zle (cd_224 rfl) rfl rfl q3 ?_
    refine ey_aload_n (cd_224 rfl) f0 ?_
    refine ey_getf_r (cd_224 rfl) mt_224 rfl rfl rfl (jhm_gr (q := 80) hb rfl) ?_
    refine ey_iload_n (cd_224 rfl) f1 ?_
    obtain ⟨v4, e5, e⟩ := jbind e
    refine ey_iald (cd_224 rfl) (jhm_ai hb h6 (by decide) rfl e5) ?_
    refine ey_istore_n (cd_224 rfl) mt_224 rfl ?_
    refine ey_aload_n (cd_224 rfl) f0 ?_
    refine ey_getf_r (cd_224 rfl) mt_224 rfl rfl rfl (jhm_gr (q := 80) hb rfl) ?_
    refine ey_iload_n (cd_224 rfl) f1 ?_
    refine ey_iload_n (cd_224 rfl) (jup_pi (lv := lv) (j := 2) (v := jI v4) (z := x2) f2) ?_
    refine ey_sipush (cd_224 rfl) (by decide) ?_
    refine ey_iand (cd_224 rfl) ?_
    obtain ⟨m6, e7, e⟩ := jbind e
    refine ey_iast (cd_224 rfl) (jhm_ta hb (by decide) rfl e7) ?_
    refine ey_iload_n (cd_224 rfl) rfl ?_
    cases e
    exact ey_reti (cd_224 rfl) mt_224 rfl
  · rw [if_neg q3] at e
    refine ey_yle (cd_224 rfl) rfl rfl q3 ?_
    refine ey_iconst (cd_224 rfl) ?_
    cases e
    exact ey_reti (cd_224 rfl) mt_224 rfl
set_option maxRecDepth 100000 in
theorem ok_224 {L : Nat} {xs : Nat → Int32} {b : jH} (hb : 152 ≤ b.1) (h6 : b.1 ≤ 1000000) {p0 : Int} {p1 : Int} {m : jM} {o : (Int × jM)} (e : jd_224 p0 p1 m = some o) : mm_Runs (mm_xt L xs) 2 224 ([jR (some 76), jI p0, jI p1].map jcv) (jaH (jhm b m)) (.inl (some (jcv (jI o.1)), jaH (jhm b o.2))) := by
  refine ey_run0 _ mt_224 (jsl_s rfl) ?_
  unfold jd_224 at e
  refine ey_aload_n (cd_224 rfl) rfl ?_
  refine ey_iload_n (cd_224 rfl) rfl ?_
  refine ey_i2l (cd_224 rfl) ?_
  refine ey_lconst0 (cd_224 rfl) ?_
  refine ey_aload_n (cd_224 rfl) rfl ?_
  refine ey_getf_i (z := (m 76 5)) (cd_224 rfl) mt_224 rfl rfl rfl (jhm_gi hb 5) ?_
  refine ey_iconst (cd_224 rfl) ?_
  refine ey_isub (cd_224 rfl) ?_
  refine ey_i2l (cd_224 rfl) ?_
  refine ey_cs (s0 := [jJ (jw ((m 76 5) - 1)), jJ 0, jJ (jw p0), jR (some 76)]) (s1 := [jR (some 76)]) (st' := [jI (jd_204 (jw p0) 0 (jw ((m 76 5) - 1))), jR (some 76)]) (cd_224 rfl) mt_224 mt_204 rfl (by decide) rfl rfl (jsml_s rfl) rfl (ok_204 ) ?_
  have K8 : ∀ lv : jL, lv 0 = some (jR (some 76)) → lv 1 = some (jI p0) → lv 2 = some (jI p1) → ey (mm_xt L xs) 1 224 22 lv [jI (if (jw (jd_204 (jw p0) 0 (jw ((m 76 5) - 1)))) = 0 then 1 else 0), jR (some 76)] (jhm b m) (.inl (some (jcv (jI o.1)), jaH (jhm b o.2))) := by
    intro lv g0 g1 g2
    exact jk_224_b22 hb h6 e lv g0 g1 g2
  by_cases q9 : (jw (jd_204 (jw p0) 0 (jw ((m 76 5) - 1)))) = 0
  · refine ey_zeq (cd_224 rfl) rfl rfl q9 ?_
    refine ey_iconst (cd_224 rfl) ?_
    exact ey_rs (s0 := [jI 1, jR (some 76)]) (s1 := [jI (if (jw (jd_204 (jw p0) 0 (jw ((m 76 5) - 1)))) = 0 then 1 else 0), jR (some 76)]) (by rw [show ((if (jw (jd_204 (jw p0) 0 (jw ((m 76 5) - 1)))) = 0 then 1 else 0) : Int) = 1 from (if_pos q9)]) (K8 (jlf (jla 0 [jR (some 76), jI p0, jI p1])) rfl rfl rfl)
  · refine ey_yeq (cd_224 rfl) rfl rfl q9 ?_
    refine ey_iconst (cd_224 rfl) ?_
    refine ey_goto (cd_224 rfl) rfl ?_
    exact ey_rs (s0 := [jI 0, jR (some 76)]) (s1 := [jI (if (jw (jd_204 (jw p0) 0 (jw ((m 76 5) - 1)))) = 0 then 1 else 0), jR (some 76)]) (by rw [show ((if (jw (jd_204 (jw p0) 0 (jw ((m 76 5) - 1)))) = 0 then 1 else 0) : Int) = 0 from (if_neg q9)]) (K8 (jlf (jla 0 [jR (some 76), jI p0, jI p1])) rfl rfl rfl)
theorem cd_225 {pc : Nat} {i : Instr × Nat} (h : mm_lk mm_c225 pc = some i) : mm_cd 225 pc = some i := h
theorem mt_225 : mm_MT 225 = (12, 2, some .int, 1, 0, []) := rfl
set_option maxRecDepth 100000 in
theorem jk_225_b31 {L : Nat} {xs : Nat → Int32} {b : jH} (hb : 152 ≤ b.1) (h6 : b.1 ≤ 1000000) {y0 : Int} {m : jM} {o : (Int × jM)} (e : jd_225_b31 y0 m = some o) : ∀ lv : jL, ey (mm_xt L xs) 1 225 31 lv [jI y0] (jhm b m) (.inl (some (jcv (jI o.1)), jaH (jhm b o.2))) := by
  intro lv 
  unfold jd_225_b31 at e
  cases e
  exact ey_reti (cd_225 rfl) mt_225 rfl
set_option maxRecDepth 100000 in
theorem ok_225 {L : Nat} {xs : Nat → Int32} {b : jH} (hb : 152 ≤ b.1) (h6 : b.1 ≤ 1000000) {p0 : Int} {m : jM} {o : (Int × jM)} (e : jd_225 p0 m = some o) : mm_Runs (mm_xt L xs) 2 225 ([jR (some 76), jI p0].map jcv) (jaH (jhm b m)) (.inl (some (jcv (jI o.1)), jaH (jhm b o.2))) := by
  refine ey_run0 _ mt_225 (jsl_s rfl) ?_
  unfold jd_225 at e
  refine ey_aload_n (cd_225 rfl) rfl ?_
  refine ey_iconst (cd_225 rfl) ?_
  obtain ⟨m1, e2, e⟩ := jbind e
  refine ey_putf_i (cd_225 rfl) mt_225 rfl rfl rfl (jhm_pi' (k := 0) hb e2) ?_
  refine ey_iload_n (cd_225 rfl) rfl ?_
  refine ey_i2l (cd_225 rfl) ?_
  refine ey_lconst0 (cd_225 rfl) ?_
  refine ey_aload_n (cd_225 rfl) rfl ?_
  refine ey_getf_i (z := (m1 76 5)) (cd_225 rfl) mt_225 rfl rfl rfl (jhm_gi hb 5) ?_
  refine ey_iconst (cd_225 rfl) ?_
  refine ey_isub (cd_225 rfl) ?_
  refine ey_i2l (cd_225 rfl) ?_
  refine ey_cs (s0 := [jJ (jw ((m1 76 5) - 1)), jJ 0, jJ (jw p0)]) (s1 := []) (st' := [jI (jd_204 (jw p0) 0 (jw ((m1 76 5) - 1)))]) (cd_225 rfl) mt_225 mt_204 rfl (by decide) rfl rfl (jsml_s rfl) rfl (ok_204 ) ?_
  by_cases q3 : (jw (jd_204 (jw p0) 0 (jw ((m1 76 5) - 1)))) = 0
  · rw [if_pos q3] at e
    refine ey_zeq (cd_225 rfl) rfl rfl q3 ?_
    refine ey_iconst (cd_225 rfl) ?_
    exact jk_225_b31 hb h6 e (jlf (jla 0 [jR (some 76), jI p0])) 
  · rw [if_neg q3] at e
    refine ey_yeq (cd_225 rfl) rfl rfl q3 ?_
    refine ey_aload_n (cd_225 rfl) rfl ?_
    refine ey_getf_r (cd_225 rfl) mt_225 rfl rfl rfl (jhm_gr (q := 80) hb rfl) ?_
    refine ey_iload_n (cd_225 rfl) rfl ?_
    obtain ⟨v4, e5, e⟩ := jbind e
    refine ey_iald (cd_225 rfl) (jhm_ai hb h6 (by decide) rfl e5) ?_
    refine ey_goto (cd_225 rfl) rfl ?_
    exact jk_225_b31 hb h6 e (jlf (jla 0 [jR (some 76), jI p0])) 
theorem cd_226 {pc : Nat} {i : Instr × Nat} (h : mm_lk mm_c226 pc = some i) : mm_cd 226 pc = some i := h
theorem mt_226 : mm_MT 226 = (12, 2, some .int, 0, 0, []) := rfl
set_option maxRecDepth 100000 in
theorem ok_226 {L : Nat} {xs : Nat → Int32} {b : jH} (hb : 152 ≤ b.1) (h6 : b.1 ≤ 1000000)  {m : jM} {o : (Int × jM)} (e : jd_226  m = some o) : mm_Runs (mm_xt L xs) 1 226 ([jR (some 76)].map jcv) (jaH (jhm b m)) (.inl (some (jcv (jI o.1)), jaH (jhm b o.2))) := by
  refine ey_run0 _ mt_226 (jsl_s rfl) ?_
  unfold jd_226 at e
  refine ey_aload_n (cd_226 rfl) rfl ?_
  refine ey_iconst (cd_226 rfl) ?_
  obtain ⟨m1, e2, e⟩ := jbind e
  refine ey_putf_i (cd_226 rfl) mt_226 rfl rfl rfl (jhm_pi' (k := 0) hb e2) ?_
  refine ey_aload_n (cd_226 rfl) rfl ?_
  refine ey_getf_i (z := (m1 76 5)) (cd_226 rfl) mt_226 rfl rfl rfl (jhm_gi hb 5) ?_
  refine ey_istore_n (cd_226 rfl) mt_226 rfl ?_
  refine ey_aload_n (cd_226 rfl) (jup_pr (lv := (jlf (jla 0 [jR (some 76)]))) (j := 0) (v := jI (m1 76 5)) (z := (some 76)) rfl) ?_
  refine ey_iconst (cd_226 rfl) ?_
  obtain ⟨m3, e4, e⟩ := jbind e
  refine ey_putf_i (cd_226 rfl) mt_226 rfl rfl rfl (jhm_pi' (k := 5) hb e4) ?_
  refine ey_iload_n (cd_226 rfl) rfl ?_
  cases e
  exact ey_reti (cd_226 rfl) mt_226 rfl
theorem cd_227 {pc : Nat} {i : Instr × Nat} (h : mm_lk mm_c227 pc = some i) : mm_cd 227 pc = some i := h
theorem mt_227 : mm_MT 227 = (12, 2, some .int, 0, 0, []) := rfl
set_option maxRecDepth 100000 in
theorem ok_227 {L : Nat} {xs : Nat → Int32} {b : jH} (hb : 152 ≤ b.1) (h6 : b.1 ≤ 1000000)  {m : jM} {o : (Int × jM)} (e : jd_227  m = some o) : mm_Runs (mm_xt L xs) 1 227 ([jR (some 76)].map jcv) (jaH (jhm b m)) (.inl (some (jcv (jI o.1)), jaH (jhm b o.2))) := by
  refine ey_run0 _ mt_227 (jsl_s rfl) ?_
  unfold jd_227 at e
  refine ey_aload_n (cd_227 rfl) rfl ?_
  refine ey_getf_i (z := (m 76 52)) (cd_227 rfl) mt_227 rfl rfl rfl (jhm_gi hb 52) ?_
  by_cases q1 : (jw (m 76 52)) ≤ 0
  · rw [if_pos q1] at e
    refine ey_zle (cd_227 rfl) rfl rfl q1 ?_
    refine ey_aload_n (cd_227 rfl) rfl ?_
    refine ey_getf_i (z := (m 76 51)) (cd_227 rfl) mt_227 rfl rfl rfl (jhm_gi hb 51) ?_
    refine ey_aload_n (cd_227 rfl) rfl ?_
    refine ey_getf_i (z := (m 76 50)) (cd_227 rfl) mt_227 rfl rfl rfl (jhm_gi hb 50) ?_
    by_cases q2 : (jw (m 76 51)) = (jw (m 76 50))
    · rw [if_pos q2] at e
      refine ey_nne (cd_227 rfl) rfl rfl rfl (fun w => w q2) ?_
      refine ey_aload_n (cd_227 rfl) rfl ?_
      refine ey_iconst (cd_227 rfl) ?_
      obtain ⟨m3, e4, e⟩ := jbind e
      refine ey_putf_i (cd_227 rfl) mt_227 rfl rfl rfl (jhm_pi' (k := 52) hb e4) ?_
      refine ey_iconst (cd_227 rfl) ?_
      cases e
      exact ey_reti (cd_227 rfl) mt_227 rfl
    · rw [if_neg q2] at e
      refine ey_cne (cd_227 rfl) rfl rfl rfl q2 ?_
      refine ey_aload_n (cd_227 rfl) rfl ?_
      refine ey_getf_r (cd_227 rfl) mt_227 rfl rfl rfl (jhm_gr (q := 112) hb rfl) ?_
      refine ey_aload_n (cd_227 rfl) rfl ?_
      refine ey_getf_i (z := (m 76 49)) (cd_227 rfl) mt_227 rfl rfl rfl (jhm_gi hb 49) ?_
      refine ey_aload_n (cd_227 rfl) rfl ?_
      refine ey_getf_i (z := (m 76 51)) (cd_227 rfl) mt_227 rfl rfl rfl (jhm_gi hb 51) ?_
      refine ey_iconst (cd_227 rfl) ?_
      refine ey_ishr (cd_227 rfl) ?_
      refine ey_iadd (cd_227 rfl) ?_
      obtain ⟨v5, e6, e⟩ := jbind e
      refine ey_bald (cd_227 rfl) (jhm_ab hb (by decide) rfl e6) ?_
      refine ey_bipush (cd_227 rfl) (by decide) ?_
      refine ey_aload_n (cd_227 rfl) rfl ?_
      refine ey_getf_i (z := (m 76 51)) (cd_227 rfl) mt_227 rfl rfl rfl (jhm_gi hb 51) ?_
      refine ey_bipush (cd_227 rfl) (by decide) ?_
      refine ey_iand (cd_227 rfl) ?_
      refine ey_isub (cd_227 rfl) ?_
      refine ey_ishr (cd_227 rfl) ?_
      refine ey_iconst (cd_227 rfl) ?_
      refine ey_iand (cd_227 rfl) ?_
      obtain ⟨z7, e8, e⟩ := jbind e
      refine ey_rs (s0 := [jI (jand (jshr v5 (7 - (jand (m 76 51) 7))) 1)]) (s1 := [jI z7]) (by rw [show (jand (jshr v5 (7 - (jand (m 76 51) 7))) 1) = z7 from Option.some.inj e8]) ?_
      refine ey_istore_n (cd_227 rfl) mt_227 rfl ?_
      refine ey_aload_n (cd_227 rfl) (jup_pr (lv := (jlf (jla 0 [jR (some 76)]))) (j := 0) (v := jI z7) (z := (some 76)) rfl) ?_
      refine ey_dup (cd_227 rfl) rfl ?_
      refine ey_getf_i (z := (m 76 51)) (cd_227 rfl) mt_227 rfl rfl rfl (jhm_gi hb 51) ?_
      refine ey_iconst (cd_227 rfl) ?_
      refine ey_iadd (cd_227 rfl) ?_
      obtain ⟨m9, e10, e⟩ := jbind e
      refine ey_putf_i (cd_227 rfl) mt_227 rfl rfl rfl (jhm_pi' (k := 51) hb e10) ?_
      refine ey_iload_n (cd_227 rfl) rfl ?_
      cases e
      exact ey_reti (cd_227 rfl) mt_227 rfl
  · rw [if_neg q1] at e
    refine ey_yle (cd_227 rfl) rfl rfl q1 ?_
    refine ey_iconst (cd_227 rfl) ?_
    cases e
    exact ey_reti (cd_227 rfl) mt_227 rfl
theorem cd_228 {pc : Nat} {i : Instr × Nat} (h : mm_lk mm_c228 pc = some i) : mm_cd 228 pc = some i := h
theorem mt_228 : mm_MT 228 = (12, 4, some .int, 1, 0, []) := rfl
set_option maxRecDepth 100000 in
theorem jk_228_s4 {L : Nat} {xs : Nat → Int32} {b : jH} (hb : 152 ≤ b.1) (h6 : b.1 ≤ 1000000) {x1 : Int} {x2 : Int} {x3 : Int} {m : jM} {o : ((Int × Int × jM) ⊕ (Int × jM))} {r : mm_R} (e : jd_228_s4 x1 x2 x3 m = some o) (K : jsm (fun s => (∀ lv : jL, lv 0 = some (jR (some 76)) → lv 1 = some (jI x1) → lv 2 = some (jI s.1) → lv 3 = some (jI s.2.1) → ey (mm_xt L xs) 1 228 4 lv [] (jhm b s.2.2) r)) (fun x => (∀ lv : jL, lv 2 = some (jI x.1) → ey (mm_xt L xs) 1 228 24 lv [] (jhm b x.2) r)) o) : ∀ lv : jL, lv 0 = some (jR (some 76)) → lv 1 = some (jI x1) → lv 2 = some (jI x2) → lv 3 = some (jI x3) → ey (mm_xt L xs) 1 228 4 lv [] (jhm b m) r := by
  intro lv f0 f1 f2 f3
  unfold jd_228_s4 at e
  refine ey_iload_n (cd_228 rfl) f3 ?_
  refine ey_iload_n (cd_228 rfl) f1 ?_
  by_cases q1 : (jw x1) ≤ (jw x3)
  · rw [if_pos q1] at e
    refine ey_cge (cd_228 rfl) rfl rfl rfl q1 ?_
    cases e
    exact K lv f2
  · rw [if_neg q1] at e
    refine ey_nge (cd_228 rfl) rfl rfl rfl q1 ?_
    refine ey_iconst (cd_228 rfl) ?_
    refine ey_iload_n (cd_228 rfl) f2 ?_
    refine ey_imul (cd_228 rfl) ?_
    refine ey_aload_n (cd_228 rfl) f0 ?_
    obtain ⟨q2, e3, e⟩ := jbind e
    refine ey_cv (s0 := [jR (some 76), jI (2 * x2)]) (s1 := [jI (2 * x2)]) (st' := [jI q2.1, jI (2 * x2)]) (cd_228 rfl) mt_228 mt_227 rfl rfl rfl (jhm_is hb) rfl (jsml_s rfl) rfl (ok_227 hb h6 e3) ?_
    refine ey_iadd (cd_228 rfl) ?_
    refine ey_istore_n (cd_228 rfl) mt_228 rfl ?_
    refine ey_iinc (cd_228 rfl) mt_228 rfl f3 ?_
    refine ey_goto (cd_228 rfl) rfl ?_
    cases e
    exact K (jup (jup lv 2 (jI ((2 * x2) + q2.1))) 3 (jI (x3 + 1))) f0 (jup_o rfl (jup_pi (lv := lv) (j := 1) (v := jI ((2 * x2) + q2.1)) (z := x1) f1)) (jup_pi (lv := (jup lv 2 (jI ((2 * x2) + q2.1)))) (j := 2) (v := jI (x3 + 1)) (z := ((2 * x2) + q2.1)) rfl) rfl
theorem jk_228_l4 {L : Nat} {xs : Nat → Int32} {b : jH} (hb : 152 ≤ b.1) (h6 : b.1 ≤ 1000000) {x1 : Int} {x2 : Int} {x3 : Int} {m : jM} {x : (Int × jM)} {r : mm_R} (e : jd_228_l4 x1 x2 x3 m = some x) (K : (∀ lv : jL, lv 2 = some (jI x.1) → ey (mm_xt L xs) 1 228 24 lv [] (jhm b x.2) r)) : ∀ lv : jL, lv 0 = some (jR (some 76)) → lv 1 = some (jI x1) → lv 2 = some (jI x2) → lv 3 = some (jI x3) → ey (mm_xt L xs) 1 228 4 lv [] (jhm b m) r := by
  unfold jd_228_l4 at e
  exact jlp_ok2 (P := fun s => ∀ lv : jL, lv 0 = some (jR (some 76)) → lv 1 = some (jI x1) → lv 2 = some (jI s.1) → lv 3 = some (jI s.2.1) → ey (mm_xt L xs) 1 228 4 lv [] (jhm b s.2.2) r) (Q := fun x => (∀ lv : jL, lv 2 = some (jI x.1) → ey (mm_xt L xs) 1 228 24 lv [] (jhm b x.2) r)) (fun s q hq hk => jk_228_s4 hb h6 hq hk) jfu _ x e K
set_option maxRecDepth 100000 in
theorem ok_228 {L : Nat} {xs : Nat → Int32} {b : jH} (hb : 152 ≤ b.1) (h6 : b.1 ≤ 1000000) {p0 : Int} {m : jM} {o : (Int × jM)} (e : jd_228 p0 m = some o) : mm_Runs (mm_xt L xs) 2 228 ([jR (some 76), jI p0].map jcv) (jaH (jhm b m)) (.inl (some (jcv (jI o.1)), jaH (jhm b o.2))) := by
  refine ey_run0 _ mt_228 (jsl_s rfl) ?_
  unfold jd_228 at e
  refine ey_iconst (cd_228 rfl) ?_
  refine ey_istore_n (cd_228 rfl) mt_228 rfl ?_
  refine ey_iconst (cd_228 rfl) ?_
  refine ey_istore_n (cd_228 rfl) mt_228 rfl ?_
  obtain ⟨x4, e5, e⟩ := jbind e
  refine jk_228_l4 hb h6 e5 ?_ (jup (jup (jlf (jla 0 [jR (some 76), jI p0])) 2 (jI 0)) 3 (jI 0)) rfl (jup_o rfl (jup_pi (lv := (jlf (jla 0 [jR (some 76), jI p0]))) (j := 1) (v := jI 0) (z := p0) rfl)) (jup_pi (lv := (jup (jlf (jla 0 [jR (some 76), jI p0])) 2 (jI 0))) (j := 2) (v := jI 0) (z := 0) rfl) rfl
  intro lv g2
  refine ey_iload_n (cd_228 rfl) g2 ?_
  cases e
  exact ey_reti (cd_228 rfl) mt_228 rfl
theorem cd_229 {pc : Nat} {i : Instr × Nat} (h : mm_lk mm_c229 pc = some i) : mm_cd 229 pc = some i := h
theorem mt_229 : mm_MT 229 = (12, 4, some .int, 0, 0, []) := rfl
set_option maxRecDepth 100000 in
theorem jk_229_s2 {L : Nat} {xs : Nat → Int32} {b : jH} (hb : 152 ≤ b.1) (h6 : b.1 ≤ 1000000) {x1 : Int} {m : jM} {o : ((Int × jM) ⊕ (Int × jM))} {r : mm_R} (e : jd_229_s2 x1 m = some o) (K : jsm (fun s => (∀ lv : jL, lv 0 = some (jR (some 76)) → lv 1 = some (jI s.1) → ey (mm_xt L xs) 1 229 2 lv [] (jhm b s.2) r)) (fun x => (∀ lv : jL, lv 0 = some (jR (some 76)) → lv 1 = some (jI x.1) → ey (mm_xt L xs) 1 229 41 lv [] (jhm b x.2) r)) o) : ∀ lv : jL, lv 0 = some (jR (some 76)) → lv 1 = some (jI x1) → ey (mm_xt L xs) 1 229 2 lv [] (jhm b m) r := by
  intro lv f0 f1
  unfold jd_229_s2 at e
  refine ey_aload_n (cd_229 rfl) f0 ?_
  refine ey_getf_i (z := (m 76 52)) (cd_229 rfl) mt_229 rfl rfl rfl (jhm_gi hb 52) ?_
  by_cases q1 : (jw (m 76 52)) = 0
  · rw [if_pos q1] at e
    refine ey_yne (cd_229 rfl) rfl rfl (fun w => w q1) ?_
    refine ey_aload_n (cd_229 rfl) f0 ?_
    obtain ⟨q2, e3, e⟩ := jbind e
    refine ey_cv (s0 := [jR (some 76)]) (s1 := []) (st' := [jI q2.1]) (cd_229 rfl) mt_229 mt_227 rfl rfl rfl (jhm_is hb) rfl (jsml_s rfl) rfl (ok_227 hb h6 e3) ?_
    by_cases q4 : (jw q2.1) = 0
    · rw [if_pos q4] at e
      refine ey_yne (cd_229 rfl) rfl rfl (fun w => w q4) ?_
      refine ey_aload_n (cd_229 rfl) f0 ?_
      refine ey_getf_i (z := (q2.2 76 52)) (cd_229 rfl) mt_229 rfl rfl rfl (jhm_gi hb 52) ?_
      by_cases q5 : (jw (q2.2 76 52)) = 0
      · rw [if_pos q5] at e
        refine ey_yne (cd_229 rfl) rfl rfl (fun w => w q5) ?_
        refine ey_iinc (cd_229 rfl) mt_229 rfl f1 ?_
        refine ey_iload_n (cd_229 rfl) rfl ?_
        refine ey_bipush (cd_229 rfl) (by decide) ?_
        by_cases q6 : (jw (x1 + 1)) = 15
        · rw [if_pos q6] at e
          refine ey_nne (cd_229 rfl) rfl rfl (show jw 15 = 15 from by decide) (fun w => w q6) ?_
          refine ey_aload_n (cd_229 rfl) (jup_pr (lv := lv) (j := 0) (v := jI (x1 + 1)) (z := (some 76)) f0) ?_
          refine ey_bipush (cd_229 rfl) (by decide) ?_
          obtain ⟨m7, e8, e⟩ := jbind e
          refine ey_putf_i (cd_229 rfl) mt_229 rfl rfl rfl (jhm_pi' (k := 52) hb e8) ?_
          refine ey_goto (cd_229 rfl) rfl ?_
          cases e
          exact K (jup lv 1 (jI (x1 + 1))) (jup_pr (lv := lv) (j := 0) (v := jI (x1 + 1)) (z := (some 76)) f0) rfl
        · rw [if_neg q6] at e
          refine ey_cne (cd_229 rfl) rfl rfl (show jw 15 = 15 from by decide) q6 ?_
          cases e
          exact K (jup lv 1 (jI (x1 + 1))) (jup_pr (lv := lv) (j := 0) (v := jI (x1 + 1)) (z := (some 76)) f0) rfl
      · rw [if_neg q5] at e
        refine ey_zne (cd_229 rfl) rfl rfl q5 ?_
        cases e
        exact K lv f0 f1
    · rw [if_neg q4] at e
      refine ey_zne (cd_229 rfl) rfl rfl q4 ?_
      cases e
      exact K lv f0 f1
  · rw [if_neg q1] at e
    refine ey_zne (cd_229 rfl) rfl rfl q1 ?_
    cases e
    exact K lv f0 f1
theorem jk_229_l2 {L : Nat} {xs : Nat → Int32} {b : jH} (hb : 152 ≤ b.1) (h6 : b.1 ≤ 1000000) {x1 : Int} {m : jM} {x : (Int × jM)} {r : mm_R} (e : jd_229_l2 x1 m = some x) (K : (∀ lv : jL, lv 0 = some (jR (some 76)) → lv 1 = some (jI x.1) → ey (mm_xt L xs) 1 229 41 lv [] (jhm b x.2) r)) : ∀ lv : jL, lv 0 = some (jR (some 76)) → lv 1 = some (jI x1) → ey (mm_xt L xs) 1 229 2 lv [] (jhm b m) r := by
  unfold jd_229_l2 at e
  exact jlp_ok2 (P := fun s => ∀ lv : jL, lv 0 = some (jR (some 76)) → lv 1 = some (jI s.1) → ey (mm_xt L xs) 1 229 2 lv [] (jhm b s.2) r) (Q := fun x => (∀ lv : jL, lv 0 = some (jR (some 76)) → lv 1 = some (jI x.1) → ey (mm_xt L xs) 1 229 41 lv [] (jhm b x.2) r)) (fun s q hq hk => jk_229_s2 hb h6 hq hk) jfu _ x e K
set_option maxRecDepth 100000 in
theorem jk_229_s45 {L : Nat} {xs : Nat → Int32} {b : jH} (hb : 152 ≤ b.1) (h6 : b.1 ≤ 1000000) {x1 : Int} {x2 : Int} {x3 : Int} {m : jM} {o : ((Int × Int × jM) ⊕ (Int × jM))} {r : mm_R} (e : jd_229_s45 x1 x2 x3 m = some o) (K : jsm (fun s => (∀ lv : jL, lv 0 = some (jR (some 76)) → lv 1 = some (jI x1) → lv 2 = some (jI s.1) → lv 3 = some (jI s.2.1) → ey (mm_xt L xs) 1 229 45 lv [] (jhm b s.2.2) r)) (fun x => (∀ lv : jL, lv 0 = some (jR (some 76)) → lv 2 = some (jI x.1) → ey (mm_xt L xs) 1 229 72 lv [] (jhm b x.2) r)) o) : ∀ lv : jL, lv 0 = some (jR (some 76)) → lv 1 = some (jI x1) → lv 2 = some (jI x2) → lv 3 = some (jI x3) → ey (mm_xt L xs) 1 229 45 lv [] (jhm b m) r := by
  intro lv f0 f1 f2 f3
  unfold jd_229_s45 at e
  refine ey_iload_n (cd_229 rfl) f3 ?_
  refine ey_iload_n (cd_229 rfl) f1 ?_
  by_cases q11 : (jw x1) ≤ (jw x3)
  · rw [if_pos q11] at e
    refine ey_cge (cd_229 rfl) rfl rfl rfl q11 ?_
    cases e
    exact K lv f0 f2
  · rw [if_neg q11] at e
    refine ey_nge (cd_229 rfl) rfl rfl rfl q11 ?_
    refine ey_aload_n (cd_229 rfl) f0 ?_
    refine ey_getf_i (z := (m 76 52)) (cd_229 rfl) mt_229 rfl rfl rfl (jhm_gi hb 52) ?_
    by_cases q12 : (jw (m 76 52)) = 0
    · rw [if_pos q12] at e
      refine ey_yne (cd_229 rfl) rfl rfl (fun w => w q12) ?_
      refine ey_iconst (cd_229 rfl) ?_
      refine ey_iload_n (cd_229 rfl) f2 ?_
      refine ey_imul (cd_229 rfl) ?_
      refine ey_aload_n (cd_229 rfl) f0 ?_
      obtain ⟨q13, e14, e⟩ := jbind e
      refine ey_cv (s0 := [jR (some 76), jI (2 * x2)]) (s1 := [jI (2 * x2)]) (st' := [jI q13.1, jI (2 * x2)]) (cd_229 rfl) mt_229 mt_227 rfl rfl rfl (jhm_is hb) rfl (jsml_s rfl) rfl (ok_227 hb h6 e14) ?_
      refine ey_iadd (cd_229 rfl) ?_
      refine ey_istore_n (cd_229 rfl) mt_229 rfl ?_
      refine ey_iinc (cd_229 rfl) mt_229 rfl f3 ?_
      refine ey_goto (cd_229 rfl) rfl ?_
      cases e
      exact K (jup (jup lv 2 (jI ((2 * x2) + q13.1))) 3 (jI (x3 + 1))) f0 (jup_o rfl (jup_pi (lv := lv) (j := 1) (v := jI ((2 * x2) + q13.1)) (z := x1) f1)) (jup_pi (lv := (jup lv 2 (jI ((2 * x2) + q13.1)))) (j := 2) (v := jI (x3 + 1)) (z := ((2 * x2) + q13.1)) rfl) rfl
    · rw [if_neg q12] at e
      refine ey_zne (cd_229 rfl) rfl rfl q12 ?_
      cases e
      exact K lv f0 f2
theorem jk_229_l45 {L : Nat} {xs : Nat → Int32} {b : jH} (hb : 152 ≤ b.1) (h6 : b.1 ≤ 1000000) {x1 : Int} {x2 : Int} {x3 : Int} {m : jM} {x : (Int × jM)} {r : mm_R} (e : jd_229_l45 x1 x2 x3 m = some x) (K : (∀ lv : jL, lv 0 = some (jR (some 76)) → lv 2 = some (jI x.1) → ey (mm_xt L xs) 1 229 72 lv [] (jhm b x.2) r)) : ∀ lv : jL, lv 0 = some (jR (some 76)) → lv 1 = some (jI x1) → lv 2 = some (jI x2) → lv 3 = some (jI x3) → ey (mm_xt L xs) 1 229 45 lv [] (jhm b m) r := by
  unfold jd_229_l45 at e
  exact jlp_ok2 (P := fun s => ∀ lv : jL, lv 0 = some (jR (some 76)) → lv 1 = some (jI x1) → lv 2 = some (jI s.1) → lv 3 = some (jI s.2.1) → ey (mm_xt L xs) 1 229 45 lv [] (jhm b s.2.2) r) (Q := fun x => (∀ lv : jL, lv 0 = some (jR (some 76)) → lv 2 = some (jI x.1) → ey (mm_xt L xs) 1 229 72 lv [] (jhm b x.2) r)) (fun s q hq hk => jk_229_s45 hb h6 hq hk) jfu _ x e K
set_option maxRecDepth 100000 in
theorem ok_229 {L : Nat} {xs : Nat → Int32} {b : jH} (hb : 152 ≤ b.1) (h6 : b.1 ≤ 1000000)  {m : jM} {o : (Int × jM)} (e : jd_229  m = some o) : mm_Runs (mm_xt L xs) 2 229 ([jR (some 76)].map jcv) (jaH (jhm b m)) (.inl (some (jcv (jI o.1)), jaH (jhm b o.2))) := by
  refine ey_run0 _ mt_229 (jsl_s rfl) ?_
  unfold jd_229 at e
  refine ey_iconst (cd_229 rfl) ?_
  refine ey_istore_n (cd_229 rfl) mt_229 rfl ?_
  obtain ⟨x9, e10, e⟩ := jbind e
  refine jk_229_l2 hb h6 e10 ?_ (jup (jlf (jla 0 [jR (some 76)])) 1 (jI 0)) (jup_pr (lv := (jlf (jla 0 [jR (some 76)]))) (j := 0) (v := jI 0) (z := (some 76)) rfl) rfl
  intro lv g0 g1
  refine ey_iconst (cd_229 rfl) ?_
  refine ey_istore_n (cd_229 rfl) mt_229 rfl ?_
  refine ey_iconst (cd_229 rfl) ?_
  refine ey_istore_n (cd_229 rfl) mt_229 rfl ?_
  obtain ⟨x15, e16, e⟩ := jbind e
  refine jk_229_l45 hb h6 e16 ?_ (jup (jup lv 2 (jI 1)) 3 (jI 0)) g0 (jup_o rfl (jup_pi (lv := lv) (j := 1) (v := jI 1) (z := x9.1) g1)) (jup_pi (lv := (jup lv 2 (jI 1))) (j := 2) (v := jI 0) (z := 1) rfl) rfl
  intro lv g0 g2
  refine ey_aload_n (cd_229 rfl) g0 ?_
  refine ey_getf_i (z := (x15.2 76 52)) (cd_229 rfl) mt_229 rfl rfl rfl (jhm_gi hb 52) ?_
  have K17 : ∀ lv : jL, ey (mm_xt L xs) 1 229 86 lv [jI (if (jw (x15.2 76 52)) ≤ 0 then (x15.1 - 1) else 0)] (jhm b x15.2) (.inl (some (jcv (jI o.1)), jaH (jhm b o.2))) := by
    intro lv 
    cases e
    exact ey_reti (cd_229 rfl) mt_229 rfl
  by_cases q18 : (jw (x15.2 76 52)) ≤ 0
  · refine ey_zle (cd_229 rfl) rfl rfl q18 ?_
    refine ey_iload_n (cd_229 rfl) g2 ?_
    refine ey_iconst (cd_229 rfl) ?_
    refine ey_isub (cd_229 rfl) ?_
    exact ey_rs (s0 := [jI (x15.1 - 1)]) (s1 := [jI (if (jw (x15.2 76 52)) ≤ 0 then (x15.1 - 1) else 0)]) (by rw [show ((if (jw (x15.2 76 52)) ≤ 0 then (x15.1 - 1) else 0) : Int) = (x15.1 - 1) from (if_pos q18)]) (K17 lv )
  · refine ey_yle (cd_229 rfl) rfl rfl q18 ?_
    refine ey_iconst (cd_229 rfl) ?_
    refine ey_goto (cd_229 rfl) rfl ?_
    exact ey_rs (s0 := [jI 0]) (s1 := [jI (if (jw (x15.2 76 52)) ≤ 0 then (x15.1 - 1) else 0)]) (by rw [show ((if (jw (x15.2 76 52)) ≤ 0 then (x15.1 - 1) else 0) : Int) = 0 from (if_neg q18)]) (K17 lv )
theorem cd_230 {pc : Nat} {i : Instr × Nat} (h : mm_lk mm_c230 pc = some i) : mm_cd 230 pc = some i := h
theorem mt_230 : mm_MT 230 = (12, 2, some .int, 0, 0, []) := rfl
set_option maxRecDepth 100000 in
theorem jk_230_b24 {L : Nat} {xs : Nat → Int32} {b : jH} (hb : 152 ≤ b.1) (h6 : b.1 ≤ 1000000) {y0 : Int} {m : jM} {o : (Int × jM)} (e : jd_230_b24 y0 m = some o) : ∀ lv : jL, ey (mm_xt L xs) 2 230 24 lv [jI y0] (jhm b m) (.inl (some (jcv (jI o.1)), jaH (jhm b o.2))) := by
  intro lv 
  unfold jd_230_b24 at e
  cases e
  exact ey_reti (cd_230 rfl) mt_230 rfl
set_option maxRecDepth 100000 in
theorem ok_230 {L : Nat} {xs : Nat → Int32} {b : jH} (hb : 152 ≤ b.1) (h6 : b.1 ≤ 1000000)  {m : jM} {o : (Int × jM)} (e : jd_230  m = some o) : mm_Runs (mm_xt L xs) 3 230 ([jR (some 76)].map jcv) (jaH (jhm b m)) (.inl (some (jcv (jI o.1)), jaH (jhm b o.2))) := by
  refine ey_run0 _ mt_230 (jsl_s rfl) ?_
  unfold jd_230 at e
  refine ey_aload_n (cd_230 rfl) rfl ?_
  obtain ⟨q1, e2, e⟩ := jbind e
  refine ey_cv (s0 := [jR (some 76)]) (s1 := []) (st' := [jI q1.1]) (cd_230 rfl) mt_230 mt_229 rfl rfl rfl (jhm_is hb) rfl (jsml_s rfl) rfl (ok_229 hb h6 e2) ?_
  refine ey_istore_n (cd_230 rfl) mt_230 rfl ?_
  refine ey_iload_n (cd_230 rfl) rfl ?_
  refine ey_iconst (cd_230 rfl) ?_
  refine ey_iand (cd_230 rfl) ?_
  refine ey_iconst (cd_230 rfl) ?_
  have K3 : ∀ lv : jL, ey (mm_xt L xs) 2 230 24 lv [jI (if (jw (jand q1.1 1)) = 1 then (jdiv (q1.1 + 1) 2) else (-(jdiv q1.1 2)))] (jhm b q1.2) (.inl (some (jcv (jI o.1)), jaH (jhm b o.2))) := by
    intro lv 
    exact jk_230_b24 hb h6 e lv 
  by_cases q4 : (jw (jand q1.1 1)) = 1
  · refine ey_nne (cd_230 rfl) rfl rfl (show jw 1 = 1 from by decide) (fun w => w q4) ?_
    refine ey_iload_n (cd_230 rfl) rfl ?_
    refine ey_iconst (cd_230 rfl) ?_
    refine ey_iadd (cd_230 rfl) ?_
    refine ey_iconst (cd_230 rfl) ?_
    refine ey_idiv (cd_230 rfl) (by decide) ?_
    refine ey_goto (cd_230 rfl) rfl ?_
    exact ey_rs (s0 := [jI (jdiv (q1.1 + 1) 2)]) (s1 := [jI (if (jw (jand q1.1 1)) = 1 then (jdiv (q1.1 + 1) 2) else (-(jdiv q1.1 2)))]) (by rw [show ((if (jw (jand q1.1 1)) = 1 then (jdiv (q1.1 + 1) 2) else (-(jdiv q1.1 2))) : Int) = (jdiv (q1.1 + 1) 2) from (if_pos q4)]) (K3 (jup (jlf (jla 0 [jR (some 76)])) 1 (jI q1.1)) )
  · refine ey_cne (cd_230 rfl) rfl rfl (show jw 1 = 1 from by decide) q4 ?_
    refine ey_iload_n (cd_230 rfl) rfl ?_
    refine ey_iconst (cd_230 rfl) ?_
    refine ey_idiv (cd_230 rfl) (by decide) ?_
    refine ey_ineg (cd_230 rfl) ?_
    exact ey_rs (s0 := [jI (-(jdiv q1.1 2))]) (s1 := [jI (if (jw (jand q1.1 1)) = 1 then (jdiv (q1.1 + 1) 2) else (-(jdiv q1.1 2)))]) (by rw [show ((if (jw (jand q1.1 1)) = 1 then (jdiv (q1.1 + 1) 2) else (-(jdiv q1.1 2))) : Int) = (-(jdiv q1.1 2)) from (if_neg q4)]) (K3 (jup (jlf (jla 0 [jR (some 76)])) 1 (jI q1.1)) )
theorem cd_231 {pc : Nat} {i : Instr × Nat} (h : mm_lk mm_c231 pc = some i) : mm_cd 231 pc = some i := h
theorem mt_231 : mm_MT 231 = (12, 2, none, 1, 0, []) := rfl
set_option maxRecDepth 100000 in
theorem jk_231_b12 {L : Nat} {xs : Nat → Int32} {b : jH} (hb : 152 ≤ b.1) (h6 : b.1 ≤ 1000000)  {m : jM} {o : jM} (e : jd_231_b12  m = some o) : ∀ lv : jL, ey (mm_xt L xs) 0 231 12 lv [] (jhm b m) (.inl (none, jaH (jhm b o))) := by
  intro lv 
  unfold jd_231_b12 at e
  cases e
  exact ey_retv (cd_231 rfl) mt_231 rfl
set_option maxRecDepth 100000 in
theorem ok_231 {L : Nat} {xs : Nat → Int32} {b : jH} (hb : 152 ≤ b.1) (h6 : b.1 ≤ 1000000) {p0 : Int} {m : jM} {o : jM} (e : jd_231 p0 m = some o) : mm_Runs (mm_xt L xs) 1 231 ([jR (some 76), jI p0].map jcv) (jaH (jhm b m)) (.inl (none, jaH (jhm b o))) := by
  refine ey_run0 _ mt_231 (jsl_s rfl) ?_
  unfold jd_231 at e
  refine ey_aload_n (cd_231 rfl) rfl ?_
  refine ey_getf_i (z := (m 76 52)) (cd_231 rfl) mt_231 rfl rfl rfl (jhm_gi hb 52) ?_
  by_cases q1 : (jw (m 76 52)) = 0
  · rw [if_pos q1] at e
    refine ey_yne (cd_231 rfl) rfl rfl (fun w => w q1) ?_
    refine ey_aload_n (cd_231 rfl) rfl ?_
    refine ey_iload_n (cd_231 rfl) rfl ?_
    obtain ⟨m2, e3, e⟩ := jbind e
    refine ey_putf_i (cd_231 rfl) mt_231 rfl rfl rfl (jhm_pi' (k := 52) hb e3) ?_
    exact jk_231_b12 hb h6 e (jlf (jla 0 [jR (some 76), jI p0])) 
  · rw [if_neg q1] at e
    refine ey_zne (cd_231 rfl) rfl rfl q1 ?_
    exact jk_231_b12 hb h6 e (jlf (jla 0 [jR (some 76), jI p0])) 
theorem cd_232 {pc : Nat} {i : Instr × Nat} (h : mm_lk mm_c232 pc = some i) : mm_cd 232 pc = some i := h
theorem mt_232 : mm_MT 232 = (12, 4, none, 2, 0, []) := rfl
set_option maxRecDepth 100000 in
theorem jk_232_s4 {L : Nat} {xs : Nat → Int32} {b : jH} (hb : 152 ≤ b.1) (h6 : b.1 ≤ 1000000) {x1 : Int} {x3 : Int} {m : jM} {o : ((Int × jM) ⊕ jM)} {r : mm_R} (e : jd_232_s4 x1 x3 m = some o) (K : jsm (fun s => (∀ lv : jL, lv 0 = some (jR (some 76)) → lv 1 = some (jI x1) → lv 3 = some (jI s.1) → ey (mm_xt L xs) 0 232 4 lv [] (jhm b s.2) r)) (fun x => (∀ lv : jL, ey (mm_xt L xs) 0 232 39 lv [] (jhm b x) r)) o) : ∀ lv : jL, lv 0 = some (jR (some 76)) → lv 1 = some (jI x1) → lv 3 = some (jI x3) → ey (mm_xt L xs) 0 232 4 lv [] (jhm b m) r := by
  intro lv f0 f1 f3
  unfold jd_232_s4 at e
  refine ey_iload_n (cd_232 rfl) f3 ?_
  by_cases q1 : (jw x3) < 0
  · rw [if_pos q1] at e
    refine ey_zlt (cd_232 rfl) rfl rfl q1 ?_
    cases e
    exact K lv 
  · rw [if_neg q1] at e
    refine ey_ylt (cd_232 rfl) rfl rfl q1 ?_
    refine ey_aload_n (cd_232 rfl) f0 ?_
    refine ey_getf_r (cd_232 rfl) mt_232 rfl rfl rfl (jhm_gr (q := 113) hb rfl) ?_
    refine ey_aload_n (cd_232 rfl) f0 ?_
    refine ey_getf_i (z := (m 76 53)) (cd_232 rfl) mt_232 rfl rfl rfl (jhm_gi hb 53) ?_
    refine ey_iload_n (cd_232 rfl) f1 ?_
    refine ey_iload_n (cd_232 rfl) f3 ?_
    refine ey_ishr (cd_232 rfl) ?_
    refine ey_iconst (cd_232 rfl) ?_
    refine ey_iand (cd_232 rfl) ?_
    refine ey_i2b (cd_232 rfl) ?_
    obtain ⟨m2, e3, e⟩ := jbind e
    refine ey_bast (cd_232 rfl) (jhm_ta hb (by decide) rfl e3) ?_
    refine ey_aload_n (cd_232 rfl) f0 ?_
    refine ey_dup (cd_232 rfl) rfl ?_
    refine ey_getf_i (z := (m2 76 53)) (cd_232 rfl) mt_232 rfl rfl rfl (jhm_gi hb 53) ?_
    refine ey_iconst (cd_232 rfl) ?_
    refine ey_iadd (cd_232 rfl) ?_
    obtain ⟨m4, e5, e⟩ := jbind e
    refine ey_putf_i (cd_232 rfl) mt_232 rfl rfl rfl (jhm_pi' (k := 53) hb e5) ?_
    refine ey_iinc (cd_232 rfl) mt_232 rfl f3 ?_
    refine ey_goto (cd_232 rfl) rfl ?_
    cases e
    exact K (jup lv 3 (jI (x3 + (-1)))) f0 f1 rfl
theorem jk_232_l4 {L : Nat} {xs : Nat → Int32} {b : jH} (hb : 152 ≤ b.1) (h6 : b.1 ≤ 1000000) {x1 : Int} {x3 : Int} {m : jM} {x : jM} {r : mm_R} (e : jd_232_l4 x1 x3 m = some x) (K : (∀ lv : jL, ey (mm_xt L xs) 0 232 39 lv [] (jhm b x) r)) : ∀ lv : jL, lv 0 = some (jR (some 76)) → lv 1 = some (jI x1) → lv 3 = some (jI x3) → ey (mm_xt L xs) 0 232 4 lv [] (jhm b m) r := by
  unfold jd_232_l4 at e
  exact jlp_ok2 (P := fun s => ∀ lv : jL, lv 0 = some (jR (some 76)) → lv 1 = some (jI x1) → lv 3 = some (jI s.1) → ey (mm_xt L xs) 0 232 4 lv [] (jhm b s.2) r) (Q := fun x => (∀ lv : jL, ey (mm_xt L xs) 0 232 39 lv [] (jhm b x) r)) (fun s q hq hk => jk_232_s4 hb h6 hq hk) jfu _ x e K
set_option maxRecDepth 100000 in
theorem ok_232 {L : Nat} {xs : Nat → Int32} {b : jH} (hb : 152 ≤ b.1) (h6 : b.1 ≤ 1000000) {p0 : Int} {p1 : Int} {m : jM} {o : jM} (e : jd_232 p0 p1 m = some o) : mm_Runs (mm_xt L xs) 1 232 ([jR (some 76), jI p0, jI p1].map jcv) (jaH (jhm b m)) (.inl (none, jaH (jhm b o))) := by
  refine ey_run0 _ mt_232 (jsl_s rfl) ?_
  unfold jd_232 at e
  refine ey_iload_n (cd_232 rfl) rfl ?_
  refine ey_iconst (cd_232 rfl) ?_
  refine ey_isub (cd_232 rfl) ?_
  refine ey_istore_n (cd_232 rfl) mt_232 rfl ?_
  obtain ⟨x6, e7, e⟩ := jbind e
  refine jk_232_l4 hb h6 e7 ?_ (jup (jlf (jla 0 [jR (some 76), jI p0, jI p1])) 3 (jI (p1 - 1))) rfl rfl rfl
  intro lv 
  cases e
  exact ey_retv (cd_232 rfl) mt_232 rfl
