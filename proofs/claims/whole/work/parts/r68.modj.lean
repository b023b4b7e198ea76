theorem cd_360 {pc : Nat} {i : Instr × Nat} (h : mm_lk mm_c360 pc = some i) : mm_cd 360 pc = some i := h
theorem mt_360 : mm_MT 360 = (12, 3, none, 2, 0, []) := rfl
set_option maxRecDepth 100000 in
theorem ok_360 {L : Nat} {xs : Nat → Int32} {b : jH} (hb : 152 ≤ b.1) (h6 : b.1 ≤ 1000000) {p0 : Int} {p1 : Int} {m : jM} {o : jM} (e : jd_360 p0 p1 m = some o) : mm_Runs (mm_xt L xs) 4 360 ([jR (some 76), jI p0, jI p1].map jcv) (jaH (jhm b m)) (.inl (none, jaH (jhm b o))) := by
  refine ey_run0 _ mt_360 (jsl_s rfl) ?_
  unfold jd_360 at e
  refine ey_aload_n (cd_360 rfl) rfl ?_
  refine ey_iload_n (cd_360 rfl) rfl ?_
  obtain ⟨q1, e2, e⟩ := jbind e
  refine ey_cv (s0 := [jI p0, jR (some 76)]) (s1 := []) (st' := [jI q1.1]) (cd_360 rfl) mt_360 mt_357 rfl rfl rfl (jhm_is hb) rfl (jsml_s rfl) rfl (ok_357 hb h6 e2) ?_
  by_cases q3 : (jw q1.1) = 0
  · rw [if_pos q3] at e
    refine ey_zeq (cd_360 rfl) rfl rfl q3 ?_
    refine ey_aload_n (cd_360 rfl) rfl ?_
    refine ey_getf_r (cd_360 rfl) mt_360 rfl rfl rfl (jhm_gr (q := 150) hb rfl) ?_
    refine ey_iload_n (cd_360 rfl) rfl ?_
    refine ey_iload_n (cd_360 rfl) rfl ?_
    obtain ⟨m4, e5, e⟩ := jbind e
    refine ey_iast (cd_360 rfl) (jhm_ta hb (by decide) rfl e5) ?_
    cases e
    exact ey_retv (cd_360 rfl) mt_360 rfl
  · rw [if_neg q3] at e
    refine ey_yeq (cd_360 rfl) rfl rfl q3 ?_
    cases e
    exact ey_retv (cd_360 rfl) mt_360 rfl
theorem cd_361 {pc : Nat} {i : Instr × Nat} (h : mm_lk mm_c361 pc = some i) : mm_cd 361 pc = some i := h
theorem mt_361 : mm_MT 361 = (12, 5, none, 2, 0, []) := rfl
set_option maxRecDepth 100000 in
theorem jk_361_b51 {L : Nat} {xs : Nat → Int32} {b : jH} (hb : 152 ≤ b.1) (h6 : b.1 ≤ 1000000) {x1 : Int} {x2 : Int} {y0 : Int} {m : jM} {o : jM} (e : jd_361_b51 x1 x2 y0 m = some o) : ∀ lv : jL, lv 0 = some (jR (some 76)) → lv 1 = some (jI x1) → lv 2 = some (jI x2) → ey (mm_xt L xs) 3 361 51 lv [jI y0, jR (some 76)] (jhm b m) (.inl (none, jaH (jhm b o))) := by
  intro lv f0 f1 f2
  unfold jd_361_b51 at e
  obtain ⟨m2, e3, e⟩ := jbind e
  refine ey_putf_i (cd_361 rfl) mt_361 rfl rfl rfl (jhm_pi' (k := 0) hb e3) ?_
  refine ey_aload_n (cd_361 rfl) f0 ?_
  refine ey_getf_i (z := (m2 76 0)) (cd_361 rfl) mt_361 rfl rfl rfl (jhm_gi hb 0) ?_
  by_cases q4 : (jw (m2 76 0)) ≤ 0
  · rw [if_pos q4] at e
    refine ey_zle (cd_361 rfl) rfl rfl q4 ?_
    refine ey_aload_n (cd_361 rfl) f0 ?_
    refine ey_getf_r (cd_361 rfl) mt_361 rfl rfl rfl (jhm_gr (q := 141) hb rfl) ?_
    refine ey_iload_n (cd_361 rfl) f1 ?_
    obtain ⟨v5, e6, e⟩ := jbind e
    refine ey_iald (cd_361 rfl) (jhm_ai hb h6 (by decide) rfl e6) ?_
    refine ey_istore_n (cd_361 rfl) mt_361 rfl ?_
    refine ey_aload_n (cd_361 rfl) f0 ?_
    refine ey_iload_n (cd_361 rfl) rfl ?_
    refine ey_aload_n (cd_361 rfl) f0 ?_
    refine ey_iload_n (cd_361 rfl) rfl ?_
    refine ey_iload_n (cd_361 rfl) (jup_pi (lv := lv) (j := 2) (v := jI v5) (z := x2) f2) ?_
    obtain ⟨v7, e8, e⟩ := jbind e
    refine ey_cv (s0 := [jI x2, jI v5, jR (some 76), jI v5, jR (some 76)]) (s1 := [jI v5, jR (some 76)]) (st' := [jI v7, jI v5, jR (some 76)]) (cd_361 rfl) mt_361 mt_318 rfl rfl rfl (jhm_is hb) rfl (jsml_s rfl) rfl (mm_Runs.up (d := 1) (by decide) (ok_318 hb h6 e8)) ?_
    refine ey_bipush (cd_361 rfl) (by decide) ?_
    refine ey_iload_n (cd_361 rfl) rfl ?_
    refine ey_imul (cd_361 rfl) ?_
    refine ey_isub (cd_361 rfl) ?_
    obtain ⟨v9, e10, e⟩ := jbind e
    refine ey_cv (s0 := [jI (v7 - (12 * v5)), jI v5, jR (some 76)]) (s1 := []) (st' := [jI v9]) (cd_361 rfl) mt_361 mt_358 rfl rfl rfl (jhm_is hb) rfl (jsml_s rfl) rfl (mm_Runs.up (d := 1) (by decide) (ok_358 hb h6 e10)) ?_
    refine ey_istore (cd_361 rfl) mt_361 rfl ?_
    refine ey_aload_n (cd_361 rfl) f0 ?_
    refine ey_getf_r (cd_361 rfl) mt_361 rfl rfl rfl (jhm_gr (q := 144) hb rfl) ?_
    refine ey_iload_n (cd_361 rfl) f1 ?_
    refine ey_aload_n (cd_361 rfl) f0 ?_
    refine ey_getf_r (cd_361 rfl) mt_361 rfl rfl rfl (jhm_gr (q := 94) hb rfl) ?_
    refine ey_bipush (cd_361 rfl) (by decide) ?_
    refine ey_iload_n (cd_361 rfl) (jup_pi (lv := (jup lv 3 (jI v5))) (j := 3) (v := jI v9) (z := v5) rfl) ?_
    refine ey_imul (cd_361 rfl) ?_
    refine ey_iload (cd_361 rfl) rfl ?_
    refine ey_iadd (cd_361 rfl) ?_
    obtain ⟨v11, e12, e⟩ := jbind e
    refine ey_iald (cd_361 rfl) (jhm_ai hb h6 (by decide) rfl e12) ?_
    obtain ⟨m13, e14, e⟩ := jbind e
    refine ey_iast (cd_361 rfl) (jhm_ta hb (by decide) rfl e14) ?_
    refine ey_aload_n (cd_361 rfl) f0 ?_
    refine ey_getf_r (cd_361 rfl) mt_361 rfl rfl rfl (jhm_gr (q := 145) hb rfl) ?_
    refine ey_iload_n (cd_361 rfl) f1 ?_
    refine ey_aload_n (cd_361 rfl) f0 ?_
    refine ey_getf_r (cd_361 rfl) mt_361 rfl rfl rfl (jhm_gr (q := 144) hb rfl) ?_
    refine ey_iload_n (cd_361 rfl) f1 ?_
    obtain ⟨v15, e16, e⟩ := jbind e
    refine ey_iald (cd_361 rfl) (jhm_ai hb h6 (by decide) rfl e16) ?_
    obtain ⟨m17, e18, e⟩ := jbind e
    refine ey_iast (cd_361 rfl) (jhm_ta hb (by decide) rfl e18) ?_
    refine ey_aload_n (cd_361 rfl) f0 ?_
    refine ey_getf_r (cd_361 rfl) mt_361 rfl rfl rfl (jhm_gr (q := 146) hb rfl) ?_
    refine ey_iload_n (cd_361 rfl) f1 ?_
    refine ey_iload_n (cd_361 rfl) (jup_o rfl (jup_pi (lv := lv) (j := 2) (v := jI v5) (z := x2) f2)) ?_
    obtain ⟨m19, e20, e⟩ := jbind e
    refine ey_iast (cd_361 rfl) (jhm_ta hb (by decide) rfl e20) ?_
    refine ey_aload_n (cd_361 rfl) f0 ?_
    refine ey_getf_r (cd_361 rfl) mt_361 rfl rfl rfl (jhm_gr (q := 147) hb rfl) ?_
    refine ey_iload_n (cd_361 rfl) f1 ?_
    refine ey_iconst (cd_361 rfl) ?_
    obtain ⟨m21, e22, e⟩ := jbind e
    refine ey_zast (cd_361 rfl) (jhm_ta hb (by decide) rfl e22) ?_
    cases e
    exact ey_retv (cd_361 rfl) mt_361 rfl
  · rw [if_neg q4] at e
    refine ey_yle (cd_361 rfl) rfl rfl q4 ?_
    cases e
    exact ey_retv (cd_361 rfl) mt_361 rfl
set_option maxRecDepth 100000 in
theorem jk_361_b32 {L : Nat} {xs : Nat → Int32} {b : jH} (hb : 152 ≤ b.1) (h6 : b.1 ≤ 1000000) {x1 : Int} {x2 : Int} {m : jM} {o : jM} (e : jd_361_b32 x1 x2 m = some o) : ∀ lv : jL, lv 0 = some (jR (some 76)) → lv 1 = some (jI x1) → lv 2 = some (jI x2) → ey (mm_xt L xs) 3 361 32 lv [jR (some 76)] (jhm b m) (.inl (none, jaH (jhm b o))) := by
  intro lv f0 f1 f2
  unfold jd_361_b32 at e
  refine ey_iconst (cd_361 rfl) ?_
  refine ey_goto (cd_361 rfl) rfl ?_
  exact jk_361_b51 hb h6 e lv f0 f1 f2
set_option maxRecDepth 100000 in
theorem jk_361_b36 {L : Nat} {xs : Nat → Int32} {b : jH} (hb : 152 ≤ b.1) (h6 : b.1 ≤ 1000000) {x1 : Int} {x2 : Int} {m : jM} {o : jM} (e : jd_361_b36 x1 x2 m = some o) : ∀ lv : jL, lv 0 = some (jR (some 76)) → lv 1 = some (jI x1) → lv 2 = some (jI x2) → ey (mm_xt L xs) 3 361 36 lv [jR (some 76)] (jhm b m) (.inl (none, jaH (jhm b o))) := by
  intro lv f0 f1 f2
  unfold jd_361_b36 at e
  refine ey_aload_n (cd_361 rfl) f0 ?_
  refine ey_getf_r (cd_361 rfl) mt_361 rfl rfl rfl (jhm_gr (q := 141) hb rfl) ?_
  refine ey_iload_n (cd_361 rfl) f1 ?_
  obtain ⟨v26, e27, e⟩ := jbind e
  refine ey_iald (cd_361 rfl) (jhm_ai hb h6 (by decide) rfl e27) ?_
  refine ey_iconst (cd_361 rfl) ?_
  have K28 : ∀ lv : jL, lv 0 = some (jR (some 76)) → lv 1 = some (jI x1) → lv 2 = some (jI x2) → ey (mm_xt L xs) 3 361 51 lv [jI (if (jw v26) = (-1) then 2 else 0), jR (some 76)] (jhm b m) (.inl (none, jaH (jhm b o))) := by
    intro lv g0 g1 g2
    exact jk_361_b51 hb h6 e lv g0 g1 g2
  by_cases q29 : (jw v26) = (-1)
  · refine ey_nne (cd_361 rfl) rfl rfl (show jw (-1) = (-1) from by decide) (fun w => w q29) ?_
    refine ey_iconst (cd_361 rfl) ?_
    refine ey_goto (cd_361 rfl) rfl ?_
    exact ey_rs (s0 := [jI 2, jR (some 76)]) (s1 := [jI (if (jw v26) = (-1) then 2 else 0), jR (some 76)]) (by rw [show ((if (jw v26) = (-1) then 2 else 0) : Int) = 2 from (if_pos q29)]) (K28 lv f0 f1 f2)
  · refine ey_cne (cd_361 rfl) rfl rfl (show jw (-1) = (-1) from by decide) q29 ?_
    refine ey_iconst (cd_361 rfl) ?_
    exact ey_rs (s0 := [jI 0, jR (some 76)]) (s1 := [jI (if (jw v26) = (-1) then 2 else 0), jR (some 76)]) (by rw [show ((if (jw v26) = (-1) then 2 else 0) : Int) = 0 from (if_neg q29)]) (K28 lv f0 f1 f2)
set_option maxRecDepth 100000 in
theorem ok_361 {L : Nat} {xs : Nat → Int32} {b : jH} (hb : 152 ≤ b.1) (h6 : b.1 ≤ 1000000) {p0 : Int} {p1 : Int} {m : jM} {o : jM} (e : jd_361 p0 p1 m = some o) : mm_Runs (mm_xt L xs) 4 361 ([jR (some 76), jI p0, jI p1].map jcv) (jaH (jhm b m)) (.inl (none, jaH (jhm b o))) := by
  refine ey_run0 _ mt_361 (jsl_s rfl) ?_
  unfold jd_361 at e
  refine ey_aload_n (cd_361 rfl) rfl ?_
  refine ey_iload_n (cd_361 rfl) rfl ?_
  refine ey_cs (s0 := [jI p0, jR (some 76)]) (s1 := [jR (some 76)]) (st' := [jI (jd_355 p0), jR (some 76)]) (cd_361 rfl) mt_361 mt_355 rfl (by decide) rfl rfl (jsml_s rfl) rfl (mm_Runs.up (d := 2) (by decide) (ok_355 )) ?_
  by_cases q1 : (jw (jd_355 p0)) = 0
  · rw [if_pos q1] at e
    refine ey_zeq (cd_361 rfl) rfl rfl q1 ?_
    exact jk_361_b32 hb h6 e (jlf (jla 0 [jR (some 76), jI p0, jI p1])) rfl rfl rfl
  · rw [if_neg q1] at e
    refine ey_yeq (cd_361 rfl) rfl rfl q1 ?_
    refine ey_aload_n (cd_361 rfl) rfl ?_
    refine ey_getf_r (cd_361 rfl) mt_361 rfl rfl rfl (jhm_gr (q := 141) hb rfl) ?_
    refine ey_iload_n (cd_361 rfl) rfl ?_
    obtain ⟨v23, e24, e⟩ := jbind e
    refine ey_iald (cd_361 rfl) (jhm_ai hb h6 (by decide) rfl e24) ?_
    refine ey_iconst (cd_361 rfl) ?_
    by_cases q25 : (jw v23) = (-1)
    · rw [if_pos q25] at e
      refine ey_ceq (cd_361 rfl) rfl rfl (show jw (-1) = (-1) from by decide) q25 ?_
      exact jk_361_b36 hb h6 e (jlf (jla 0 [jR (some 76), jI p0, jI p1])) rfl rfl rfl
    · rw [if_neg q25] at e
      refine ey_neq (cd_361 rfl) rfl rfl (show jw (-1) = (-1) from by decide) q25 ?_
      refine ey_aload_n (cd_361 rfl) rfl ?_
      refine ey_aload_n (cd_361 rfl) rfl ?_
      refine ey_getf_r (cd_361 rfl) mt_361 rfl rfl rfl (jhm_gr (q := 141) hb rfl) ?_
      refine ey_iload_n (cd_361 rfl) rfl ?_
      obtain ⟨v30, e31, e⟩ := jbind e
      refine ey_iald (cd_361 rfl) (jhm_ai hb h6 (by decide) rfl e31) ?_
      refine ey_iload_n (cd_361 rfl) rfl ?_
      obtain ⟨v32, e33, e⟩ := jbind e
      refine ey_cv (s0 := [jI p1, jI v30, jR (some 76), jR (some 76)]) (s1 := [jR (some 76)]) (st' := [jI v32, jR (some 76)]) (cd_361 rfl) mt_361 mt_314 rfl rfl rfl (jhm_is hb) rfl (jsml_s rfl) rfl (ok_314 hb h6 e33) ?_
      by_cases q34 : (jw v32) = 0
      · rw [if_pos q34] at e
        refine ey_yne (cd_361 rfl) rfl rfl (fun w => w q34) ?_
        exact jk_361_b32 hb h6 e (jlf (jla 0 [jR (some 76), jI p0, jI p1])) rfl rfl rfl
      · rw [if_neg q34] at e
        refine ey_zne (cd_361 rfl) rfl rfl q34 ?_
        exact jk_361_b36 hb h6 e (jlf (jla 0 [jR (some 76), jI p0, jI p1])) rfl rfl rfl
theorem cd_362 {pc : Nat} {i : Instr × Nat} (h : mm_lk mm_c362 pc = some i) : mm_cd 362 pc = some i := h
theorem mt_362 : mm_MT 362 = (12, 3, some .int, 2, 0, []) := rfl
set_option maxRecDepth 100000 in
theorem jk_362_b43 {L : Nat} {xs : Nat → Int32} {b : jH} (hb : 152 ≤ b.1) (h6 : b.1 ≤ 1000000) {x1 : Int} {x2 : Int} {y0 : Int} {m : jM} {o : (Int × jM)} (e : jd_362_b43 x1 x2 y0 m = some o) : ∀ lv : jL, lv 0 = some (jR (some 76)) → lv 1 = some (jI x1) → lv 2 = some (jI x2) → ey (mm_xt L xs) 2 362 43 lv [jI y0, jR (some 76)] (jhm b m) (.inl (some (jcv (jI o.1)), jaH (jhm b o.2))) := by
  intro lv f0 f1 f2
  unfold jd_362_b43 at e
  obtain ⟨m2, e3, e⟩ := jbind e
  refine ey_putf_i (cd_362 rfl) mt_362 rfl rfl rfl (jhm_pi' (k := 0) hb e3) ?_
  refine ey_aload_n (cd_362 rfl) f0 ?_
  refine ey_getf_i (z := (m2 76 0)) (cd_362 rfl) mt_362 rfl rfl rfl (jhm_gi hb 0) ?_
  by_cases q4 : (jw (m2 76 0)) ≤ 0
  · rw [if_pos q4] at e
    refine ey_zle (cd_362 rfl) rfl rfl q4 ?_
    refine ey_iload_n (cd_362 rfl) f2 ?_
    by_cases q5 : (jw x2) = 0
    · rw [if_pos q5] at e
      refine ey_tsw (cd_362 rfl) q5 (by decide) rfl rfl ?_
      refine ey_aload_n (cd_362 rfl) f0 ?_
      refine ey_getf_r (cd_362 rfl) mt_362 rfl rfl rfl (jhm_gr (q := 141) hb rfl) ?_
      refine ey_iload_n (cd_362 rfl) f1 ?_
      obtain ⟨v6, e7, e⟩ := jbind e
      refine ey_iald (cd_362 rfl) (jhm_ai hb h6 (by decide) rfl e7) ?_
      cases e
      exact ey_reti (cd_362 rfl) mt_362 rfl
    · rw [if_neg q5] at e
      by_cases q8 : (jw x2) = 1
      · rw [if_pos q8] at e
        refine ey_tsw (cd_362 rfl) q8 (by decide) rfl rfl ?_
        refine ey_aload_n (cd_362 rfl) f0 ?_
        refine ey_getf_r (cd_362 rfl) mt_362 rfl rfl rfl (jhm_gr (q := 144) hb rfl) ?_
        refine ey_iload_n (cd_362 rfl) f1 ?_
        obtain ⟨v9, e10, e⟩ := jbind e
        refine ey_iald (cd_362 rfl) (jhm_ai hb h6 (by decide) rfl e10) ?_
        cases e
        exact ey_reti (cd_362 rfl) mt_362 rfl
      · rw [if_neg q8] at e
        by_cases q11 : (jw x2) = 2
        · rw [if_pos q11] at e
          refine ey_tsw (cd_362 rfl) q11 (by decide) rfl rfl ?_
          refine ey_aload_n (cd_362 rfl) f0 ?_
          refine ey_getf_r (cd_362 rfl) mt_362 rfl rfl rfl (jhm_gr (q := 146) hb rfl) ?_
          refine ey_iload_n (cd_362 rfl) f1 ?_
          obtain ⟨v12, e13, e⟩ := jbind e
          refine ey_iald (cd_362 rfl) (jhm_ai hb h6 (by decide) rfl e13) ?_
          cases e
          exact ey_reti (cd_362 rfl) mt_362 rfl
        · rw [if_neg q11] at e
          by_cases q14 : (jw x2) = 3
          · rw [if_pos q14] at e
            refine ey_tsw (cd_362 rfl) q14 (by decide) rfl rfl ?_
            refine ey_aload_n (cd_362 rfl) f0 ?_
            refine ey_getf_r (cd_362 rfl) mt_362 rfl rfl rfl (jhm_gr (q := 147) hb rfl) ?_
            refine ey_iload_n (cd_362 rfl) f1 ?_
            obtain ⟨v15, e16, e⟩ := jbind e
            refine ey_zald (cd_362 rfl) (jhm_az hb (by decide) rfl e16) ?_
            have K17 : ∀ lv : jL, ey (mm_xt L xs) 2 362 127 lv [jI (if (jw v15) = 0 then 0 else 1)] (jhm b m2) (.inl (some (jcv (jI o.1)), jaH (jhm b o.2))) := by
              intro lv 
              cases e
              exact ey_reti (cd_362 rfl) mt_362 rfl
            by_cases q18 : (jw v15) = 0
            · refine ey_zeq (cd_362 rfl) rfl rfl q18 ?_
              refine ey_iconst (cd_362 rfl) ?_
              exact ey_rs (s0 := [jI 0]) (s1 := [jI (if (jw v15) = 0 then 0 else 1)]) (by rw [show ((if (jw v15) = 0 then 0 else 1) : Int) = 0 from (if_pos q18)]) (K17 lv )
            · refine ey_yeq (cd_362 rfl) rfl rfl q18 ?_
              refine ey_iconst (cd_362 rfl) ?_
              refine ey_goto (cd_362 rfl) rfl ?_
              exact ey_rs (s0 := [jI 1]) (s1 := [jI (if (jw v15) = 0 then 0 else 1)]) (by rw [show ((if (jw v15) = 0 then 0 else 1) : Int) = 1 from (if_neg q18)]) (K17 lv )
          · rw [if_neg q14] at e
            by_cases q19 : (jw x2) = 4
            · rw [if_pos q19] at e
              refine ey_tsw (cd_362 rfl) q19 (by decide) rfl rfl ?_
              refine ey_aload_n (cd_362 rfl) f0 ?_
              refine ey_getf_r (cd_362 rfl) mt_362 rfl rfl rfl (jhm_gr (q := 148) hb rfl) ?_
              refine ey_iload_n (cd_362 rfl) f1 ?_
              obtain ⟨v20, e21, e⟩ := jbind e
              refine ey_iald (cd_362 rfl) (jhm_ai hb h6 (by decide) rfl e21) ?_
              cases e
              exact ey_reti (cd_362 rfl) mt_362 rfl
            · rw [if_neg q19] at e
              refine ey_tsw_d (cd_362 rfl) (by omega) rfl ?_
              refine ey_aload_n (cd_362 rfl) f0 ?_
              refine ey_getf_r (cd_362 rfl) mt_362 rfl rfl rfl (jhm_gr (q := 149) hb rfl) ?_
              refine ey_iload_n (cd_362 rfl) f1 ?_
              obtain ⟨v22, e23, e⟩ := jbind e
              refine ey_iald (cd_362 rfl) (jhm_ai hb h6 (by decide) rfl e23) ?_
              cases e
              exact ey_reti (cd_362 rfl) mt_362 rfl
  · rw [if_neg q4] at e
    refine ey_yle (cd_362 rfl) rfl rfl q4 ?_
    refine ey_iconst (cd_362 rfl) ?_
    cases e
    exact ey_reti (cd_362 rfl) mt_362 rfl
set_option maxRecDepth 100000 in
theorem ok_362 {L : Nat} {xs : Nat → Int32} {b : jH} (hb : 152 ≤ b.1) (h6 : b.1 ≤ 1000000) {p0 : Int} {p1 : Int} {m : jM} {o : (Int × jM)} (e : jd_362 p0 p1 m = some o) : mm_Runs (mm_xt L xs) 3 362 ([jR (some 76), jI p0, jI p1].map jcv) (jaH (jhm b m)) (.inl (some (jcv (jI o.1)), jaH (jhm b o.2))) := by
  refine ey_run0 _ mt_362 (jsl_s rfl) ?_
  unfold jd_362 at e
  refine ey_aload_n (cd_362 rfl) rfl ?_
  refine ey_iload_n (cd_362 rfl) rfl ?_
  refine ey_cs (s0 := [jI p0, jR (some 76)]) (s1 := [jR (some 76)]) (st' := [jI (jd_355 p0), jR (some 76)]) (cd_362 rfl) mt_362 mt_355 rfl (by decide) rfl rfl (jsml_s rfl) rfl (ok_355 ) ?_
  by_cases q1 : (jw (jd_355 p0)) = 0
  · rw [if_pos q1] at e
    refine ey_yne (cd_362 rfl) rfl rfl (fun w => w q1) ?_
    refine ey_iconst (cd_362 rfl) ?_
    refine ey_goto (cd_362 rfl) rfl ?_
    exact jk_362_b43 hb h6 e (jlf (jla 0 [jR (some 76), jI p0, jI p1])) rfl rfl rfl
  · rw [if_neg q1] at e
    refine ey_zne (cd_362 rfl) rfl rfl q1 ?_
    refine ey_iload_n (cd_362 rfl) rfl ?_
    refine ey_i2l (cd_362 rfl) ?_
    refine ey_lconst0 (cd_362 rfl) ?_
    refine ey_ldc2 (z := 5) (cd_362 rfl) mt_362 rfl (by decide) ?_
    refine ey_cs (s0 := [jJ 5, jJ 0, jJ (jw p1), jR (some 76)]) (s1 := [jR (some 76)]) (st' := [jI (jd_204 (jw p1) 0 5), jR (some 76)]) (cd_362 rfl) mt_362 mt_204 rfl (by decide) rfl rfl (jsml_s rfl) rfl (mm_Runs.up (d := 1) (by decide) (ok_204 )) ?_
    by_cases q24 : (jw (jd_204 (jw p1) 0 5)) = 0
    · rw [if_pos q24] at e
      refine ey_yne (cd_362 rfl) rfl rfl (fun w => w q24) ?_
      refine ey_iconst (cd_362 rfl) ?_
      refine ey_goto (cd_362 rfl) rfl ?_
      exact jk_362_b43 hb h6 e (jlf (jla 0 [jR (some 76), jI p0, jI p1])) rfl rfl rfl
    · rw [if_neg q24] at e
      refine ey_zne (cd_362 rfl) rfl rfl q24 ?_
      refine ey_aload_n (cd_362 rfl) rfl ?_
      refine ey_getf_r (cd_362 rfl) mt_362 rfl rfl rfl (jhm_gr (q := 141) hb rfl) ?_
      refine ey_iload_n (cd_362 rfl) rfl ?_
      obtain ⟨v25, e26, e⟩ := jbind e
      refine ey_iald (cd_362 rfl) (jhm_ai hb h6 (by decide) rfl e26) ?_
      refine ey_iconst (cd_362 rfl) ?_
      have K27 : ∀ lv : jL, lv 0 = some (jR (some 76)) → lv 1 = some (jI p0) → lv 2 = some (jI p1) → ey (mm_xt L xs) 2 362 43 lv [jI (if (jw v25) = (-1) then 3 else 0), jR (some 76)] (jhm b m) (.inl (some (jcv (jI o.1)), jaH (jhm b o.2))) := by
        intro lv g0 g1 g2
        exact jk_362_b43 hb h6 e lv g0 g1 g2
      by_cases q28 : (jw v25) = (-1)
      · refine ey_nne (cd_362 rfl) rfl rfl (show jw (-1) = (-1) from by decide) (fun w => w q28) ?_
        refine ey_iconst (cd_362 rfl) ?_
        refine ey_goto (cd_362 rfl) rfl ?_
        exact ey_rs (s0 := [jI 3, jR (some 76)]) (s1 := [jI (if (jw v25) = (-1) then 3 else 0), jR (some 76)]) (by rw [show ((if (jw v25) = (-1) then 3 else 0) : Int) = 3 from (if_pos q28)]) (K27 (jlf (jla 0 [jR (some 76), jI p0, jI p1])) rfl rfl rfl)
      · refine ey_cne (cd_362 rfl) rfl rfl (show jw (-1) = (-1) from by decide) q28 ?_
        refine ey_iconst (cd_362 rfl) ?_
        exact ey_rs (s0 := [jI 0, jR (some 76)]) (s1 := [jI (if (jw v25) = (-1) then 3 else 0), jR (some 76)]) (by rw [show ((if (jw v25) = (-1) then 3 else 0) : Int) = 0 from (if_neg q28)]) (K27 (jlf (jla 0 [jR (some 76), jI p0, jI p1])) rfl rfl rfl)
theorem cd_363 {pc : Nat} {i : Instr × Nat} (h : mm_lk mm_c363 pc = some i) : mm_cd 363 pc = some i := h
theorem mt_363 : mm_MT 363 = (12, 7, some .int, 4, 0, []) := rfl
set_option maxRecDepth 100000 in
theorem jk_363_b177 {L : Nat} {xs : Nat → Int32} {b : jH} (hb : 152 ≤ b.1) (h6 : b.1 ≤ 1000000) {y0 : Int} {m : jM} {o : (Int × jM)} (e : jd_363_b177 y0 m = some o) : ∀ lv : jL, ey (mm_xt L xs) 2 363 177 lv [jI y0] (jhm b m) (.inl (some (jcv (jI o.1)), jaH (jhm b o.2))) := by
  intro lv 
  unfold jd_363_b177 at e
  cases e
  exact ey_reti (cd_363 rfl) mt_363 rfl
set_option maxRecDepth 100000 in
theorem jk_363_b131 {L : Nat} {xs : Nat → Int32} {b : jH} (hb : 152 ≤ b.1) (h6 : b.1 ≤ 1000000) {x1 : Int} {x2 : Int} {x3 : Int} {x4 : Int} {x5 : Int} {y0 : Int} {m : jM} {o : (Int × jM)} (e : jd_363_b131 x1 x2 x3 x4 x5 y0 m = some o) : ∀ lv : jL, lv 0 = some (jR (some 76)) → lv 1 = some (jI x1) → lv 2 = some (jI x2) → lv 3 = some (jI x3) → lv 4 = some (jI x4) → lv 5 = some (jI x5) → ey (mm_xt L xs) 2 363 131 lv [jI y0, jR (some 76)] (jhm b m) (.inl (some (jcv (jI o.1)), jaH (jhm b o.2))) := by
  intro lv f0 f1 f2 f3 f4 f5
  unfold jd_363_b131 at e
  obtain ⟨m8, e9, e⟩ := jbind e
  refine ey_putf_i (cd_363 rfl) mt_363 rfl rfl rfl (jhm_pi' (k := 0) hb e9) ?_
  refine ey_aload_n (cd_363 rfl) f0 ?_
  refine ey_getf_i (z := (m8 76 0)) (cd_363 rfl) mt_363 rfl rfl rfl (jhm_gi hb 0) ?_
  by_cases q10 : (jw (m8 76 0)) ≤ 0
  · rw [if_pos q10] at e
    refine ey_zle (cd_363 rfl) rfl rfl q10 ?_
    refine ey_aload_n (cd_363 rfl) f0 ?_
    refine ey_getf_r (cd_363 rfl) mt_363 rfl rfl rfl (jhm_gr (q := 151) hb rfl) ?_
    refine ey_sipush (cd_363 rfl) (by decide) ?_
    refine ey_iload_n (cd_363 rfl) f1 ?_
    refine ey_imul (cd_363 rfl) ?_
    refine ey_iload_n (cd_363 rfl) f2 ?_
    refine ey_cs (s0 := [jI x2, jI (864 * x1), jR (some 151)]) (s1 := [jI (864 * x1), jR (some 151)]) (st' := [jI (jd_207 x2), jI (864 * x1), jR (some 151)]) (cd_363 rfl) mt_363 mt_207 rfl (by decide) rfl rfl (jsml_s rfl) rfl (mm_Runs.up (d := 1) (by decide) (ok_207 )) ?_
    refine ey_iadd (cd_363 rfl) ?_
    refine ey_iload (cd_363 rfl) f4 ?_
    refine ey_aload_n (cd_363 rfl) f0 ?_
    refine ey_getf_r (cd_363 rfl) mt_363 rfl rfl rfl (jhm_gr (q := 84) hb rfl) ?_
    refine ey_iload (cd_363 rfl) f5 ?_
    obtain ⟨v11, e12, e⟩ := jbind e
    refine ey_iald (cd_363 rfl) (jhm_ai hb h6 (by decide) rfl e12) ?_
    refine ey_iload_n (cd_363 rfl) f2 ?_
    refine ey_cs (s0 := [jI x2, jI v11, jI x4, jI ((864 * x1) + (jd_207 x2)), jR (some 151)]) (s1 := [jI x4, jI ((864 * x1) + (jd_207 x2)), jR (some 151)]) (st' := [jI (jd_206 v11 x2), jI x4, jI ((864 * x1) + (jd_207 x2)), jR (some 151)]) (cd_363 rfl) mt_363 mt_206 rfl (by decide) rfl rfl (jsml_s rfl) rfl (mm_Runs.up (d := 1) (by decide) (ok_206 )) ?_
    refine ey_imul (cd_363 rfl) ?_
    refine ey_iadd (cd_363 rfl) ?_
    refine ey_iload_n (cd_363 rfl) f3 ?_
    refine ey_iadd (cd_363 rfl) ?_
    obtain ⟨v13, e14, e⟩ := jbind e
    refine ey_iald (cd_363 rfl) (jhm_ai hb h6 (by decide) rfl e14) ?_
    exact jk_363_b177 hb h6 e lv 
  · rw [if_neg q10] at e
    refine ey_yle (cd_363 rfl) rfl rfl q10 ?_
    refine ey_iconst (cd_363 rfl) ?_
    refine ey_goto (cd_363 rfl) rfl ?_
    exact jk_363_b177 hb h6 e lv 
set_option maxRecDepth 100000 in
theorem jk_363_b98 {L : Nat} {xs : Nat → Int32} {b : jH} (hb : 152 ≤ b.1) (h6 : b.1 ≤ 1000000) {x1 : Int} {x2 : Int} {x3 : Int} {x4 : Int} {x5 : Int} {y0 : Int} {m : jM} {o : (Int × jM)} (e : jd_363_b98 x1 x2 x3 x4 x5 y0 m = some o) : ∀ lv : jL, lv 0 = some (jR (some 76)) → lv 1 = some (jI x1) → lv 2 = some (jI x2) → lv 3 = some (jI x3) → lv 4 = some (jI x4) → lv 5 = some (jI x5) → ey (mm_xt L xs) 2 363 98 lv [jI y0] (jhm b m) (.inl (some (jcv (jI o.1)), jaH (jhm b o.2))) := by
  intro lv f0 f1 f2 f3 f4 f5
  unfold jd_363_b98 at e
  refine ey_istore (cd_363 rfl) mt_363 rfl ?_
  refine ey_aload_n (cd_363 rfl) f0 ?_
  refine ey_iload (cd_363 rfl) rfl ?_
  by_cases q7 : (jw y0) = 0
  · rw [if_pos q7] at e
    refine ey_yne (cd_363 rfl) rfl rfl (fun w => w q7) ?_
    refine ey_iconst (cd_363 rfl) ?_
    refine ey_goto (cd_363 rfl) rfl ?_
    exact jk_363_b131 hb h6 e (jup lv 6 (jI y0)) f0 f1 f2 f3 f4 (jup_pi (lv := lv) (j := 5) (v := jI y0) (z := x5) f5)
  · rw [if_neg q7] at e
    refine ey_zne (cd_363 rfl) rfl rfl q7 ?_
    refine ey_iload (cd_363 rfl) (jup_pi (lv := lv) (j := 5) (v := jI y0) (z := x5) f5) ?_
    refine ey_iconst (cd_363 rfl) ?_
    by_cases q15 : (jw x5) = (-1)
    · rw [if_pos q15] at e
      refine ey_ceq (cd_363 rfl) rfl rfl (show jw (-1) = (-1) from by decide) q15 ?_
      refine ey_iconst (cd_363 rfl) ?_
      refine ey_goto (cd_363 rfl) rfl ?_
      exact jk_363_b131 hb h6 e (jup lv 6 (jI y0)) f0 f1 f2 f3 f4 (jup_pi (lv := lv) (j := 5) (v := jI y0) (z := x5) f5)
    · rw [if_neg q15] at e
      refine ey_neq (cd_363 rfl) rfl rfl (show jw (-1) = (-1) from by decide) q15 ?_
      refine ey_aload_n (cd_363 rfl) f0 ?_
      refine ey_getf_r (cd_363 rfl) mt_363 rfl rfl rfl (jhm_gr (q := 149) hb rfl) ?_
      refine ey_iload_n (cd_363 rfl) f1 ?_
      obtain ⟨v16, e17, e⟩ := jbind e
      refine ey_iald (cd_363 rfl) (jhm_ai hb h6 (by decide) rfl e17) ?_
      refine ey_iconst (cd_363 rfl) ?_
      have K18 : ∀ lv : jL, lv 0 = some (jR (some 76)) → lv 1 = some (jI x1) → lv 2 = some (jI x2) → lv 3 = some (jI x3) → lv 4 = some (jI x4) → lv 5 = some (jI x5) → ey (mm_xt L xs) 2 363 131 lv [jI (if (jw v16) = (-1) then 2 else 0), jR (some 76)] (jhm b m) (.inl (some (jcv (jI o.1)), jaH (jhm b o.2))) := by
        intro lv g0 g1 g2 g3 g4 g5
        exact jk_363_b131 hb h6 e lv g0 g1 g2 g3 g4 g5
      by_cases q19 : (jw v16) = (-1)
      · refine ey_nne (cd_363 rfl) rfl rfl (show jw (-1) = (-1) from by decide) (fun w => w q19) ?_
        refine ey_iconst (cd_363 rfl) ?_
        refine ey_goto (cd_363 rfl) rfl ?_
        exact ey_rs (s0 := [jI 2, jR (some 76)]) (s1 := [jI (if (jw v16) = (-1) then 2 else 0), jR (some 76)]) (by rw [show ((if (jw v16) = (-1) then 2 else 0) : Int) = 2 from (if_pos q19)]) (K18 (jup lv 6 (jI y0)) f0 f1 f2 f3 f4 (jup_pi (lv := lv) (j := 5) (v := jI y0) (z := x5) f5))
      · refine ey_cne (cd_363 rfl) rfl rfl (show jw (-1) = (-1) from by decide) q19 ?_
        refine ey_iconst (cd_363 rfl) ?_
        exact ey_rs (s0 := [jI 0, jR (some 76)]) (s1 := [jI (if (jw v16) = (-1) then 2 else 0), jR (some 76)]) (by rw [show ((if (jw v16) = (-1) then 2 else 0) : Int) = 0 from (if_neg q19)]) (K18 (jup lv 6 (jI y0)) f0 f1 f2 f3 f4 (jup_pi (lv := lv) (j := 5) (v := jI y0) (z := x5) f5))
set_option maxRecDepth 100000 in
theorem jk_363_b20 {L : Nat} {xs : Nat → Int32} {b : jH} (hb : 152 ≤ b.1) (h6 : b.1 ≤ 1000000) {x1 : Int} {x2 : Int} {x3 : Int} {x4 : Int} {y0 : Int} {m : jM} {o : (Int × jM)} (e : jd_363_b20 x1 x2 x3 x4 y0 m = some o) : ∀ lv : jL, lv 0 = some (jR (some 76)) → lv 1 = some (jI x1) → lv 2 = some (jI x2) → lv 3 = some (jI x3) → lv 4 = some (jI x4) → ey (mm_xt L xs) 2 363 20 lv [jI y0, jR (some 76)] (jhm b m) (.inl (some (jcv (jI o.1)), jaH (jhm b o.2))) := by
  intro lv f0 f1 f2 f3 f4
  unfold jd_363_b20 at e
  obtain ⟨m1, e2, e⟩ := jbind e
  refine ey_putf_i (cd_363 rfl) mt_363 rfl rfl rfl (jhm_pi' (k := 0) hb e2) ?_
  refine ey_aload_n (cd_363 rfl) f0 ?_
  refine ey_getf_i (z := (m1 76 0)) (cd_363 rfl) mt_363 rfl rfl rfl (jhm_gi hb 0) ?_
  by_cases q3 : (jw (m1 76 0)) ≤ 0
  · rw [if_pos q3] at e
    refine ey_zle (cd_363 rfl) rfl rfl q3 ?_
    refine ey_aload_n (cd_363 rfl) f0 ?_
    refine ey_getf_r (cd_363 rfl) mt_363 rfl rfl rfl (jhm_gr (q := 141) hb rfl) ?_
    refine ey_iload_n (cd_363 rfl) f1 ?_
    obtain ⟨v4, e5, e⟩ := jbind e
    refine ey_iald (cd_363 rfl) (jhm_ai hb h6 (by decide) rfl e5) ?_
    refine ey_istore (cd_363 rfl) mt_363 rfl ?_
    refine ey_iload (cd_363 rfl) rfl ?_
    refine ey_iconst (cd_363 rfl) ?_
    by_cases q6 : (jw v4) = (-1)
    · rw [if_pos q6] at e
      refine ey_ceq (cd_363 rfl) rfl rfl (show jw (-1) = (-1) from by decide) q6 ?_
      refine ey_iconst (cd_363 rfl) ?_
      refine ey_goto (cd_363 rfl) rfl ?_
      exact jk_363_b98 hb h6 e (jup lv 5 (jI v4)) f0 f1 f2 f3 (jup_pi (lv := lv) (j := 4) (v := jI v4) (z := x4) f4) rfl
    · rw [if_neg q6] at e
      refine ey_neq (cd_363 rfl) rfl rfl (show jw (-1) = (-1) from by decide) q6 ?_
      refine ey_iload_n (cd_363 rfl) f3 ?_
      refine ey_i2l (cd_363 rfl) ?_
      refine ey_lconst0 (cd_363 rfl) ?_
      refine ey_aload_n (cd_363 rfl) f0 ?_
      refine ey_getf_r (cd_363 rfl) mt_363 rfl rfl rfl (jhm_gr (q := 84) hb rfl) ?_
      refine ey_iload (cd_363 rfl) rfl ?_
      obtain ⟨v20, e21, e⟩ := jbind e
      refine ey_iald (cd_363 rfl) (jhm_ai hb h6 (by decide) rfl e21) ?_
      refine ey_iload_n (cd_363 rfl) f2 ?_
      refine ey_cs (s0 := [jI x2, jI v20, jJ 0, jJ (jw x3)]) (s1 := [jJ 0, jJ (jw x3)]) (st' := [jI (jd_206 v20 x2), jJ 0, jJ (jw x3)]) (cd_363 rfl) mt_363 mt_206 rfl (by decide) rfl rfl (jsml_s rfl) rfl (mm_Runs.up (d := 1) (by decide) (ok_206 )) ?_
      refine ey_iconst (cd_363 rfl) ?_
      refine ey_isub (cd_363 rfl) ?_
      refine ey_i2l (cd_363 rfl) ?_
      refine ey_cs (s0 := [jJ (jw ((jd_206 v20 x2) - 1)), jJ 0, jJ (jw x3)]) (s1 := []) (st' := [jI (jd_204 (jw x3) 0 (jw ((jd_206 v20 x2) - 1)))]) (cd_363 rfl) mt_363 mt_204 rfl (by decide) rfl rfl (jsml_s rfl) rfl (mm_Runs.up (d := 1) (by decide) (ok_204 )) ?_
      by_cases q22 : (jw (jd_204 (jw x3) 0 (jw ((jd_206 v20 x2) - 1)))) = 0
      · rw [if_pos q22] at e
        refine ey_zeq (cd_363 rfl) rfl rfl q22 ?_
        refine ey_iconst (cd_363 rfl) ?_
        exact jk_363_b98 hb h6 e (jup lv 5 (jI v4)) f0 f1 f2 f3 (jup_pi (lv := lv) (j := 4) (v := jI v4) (z := x4) f4) rfl
      · rw [if_neg q22] at e
        refine ey_yeq (cd_363 rfl) rfl rfl q22 ?_
        refine ey_iload (cd_363 rfl) (jup_pi (lv := lv) (j := 4) (v := jI v4) (z := x4) f4) ?_
        refine ey_i2l (cd_363 rfl) ?_
        refine ey_lconst0 (cd_363 rfl) ?_
        refine ey_aload_n (cd_363 rfl) f0 ?_
        refine ey_getf_r (cd_363 rfl) mt_363 rfl rfl rfl (jhm_gr (q := 85) hb rfl) ?_
        refine ey_iload (cd_363 rfl) rfl ?_
        obtain ⟨v23, e24, e⟩ := jbind e
        refine ey_iald (cd_363 rfl) (jhm_ai hb h6 (by decide) rfl e24) ?_
        refine ey_iload_n (cd_363 rfl) f2 ?_
        refine ey_cs (s0 := [jI x2, jI v23, jJ 0, jJ (jw x4)]) (s1 := [jJ 0, jJ (jw x4)]) (st' := [jI (jd_206 v23 x2), jJ 0, jJ (jw x4)]) (cd_363 rfl) mt_363 mt_206 rfl (by decide) rfl rfl (jsml_s rfl) rfl (mm_Runs.up (d := 1) (by decide) (ok_206 )) ?_
        refine ey_iconst (cd_363 rfl) ?_
        refine ey_isub (cd_363 rfl) ?_
        refine ey_i2l (cd_363 rfl) ?_
        refine ey_cs (s0 := [jJ (jw ((jd_206 v23 x2) - 1)), jJ 0, jJ (jw x4)]) (s1 := []) (st' := [jI (jd_204 (jw x4) 0 (jw ((jd_206 v23 x2) - 1)))]) (cd_363 rfl) mt_363 mt_204 rfl (by decide) rfl rfl (jsml_s rfl) rfl (mm_Runs.up (d := 1) (by decide) (ok_204 )) ?_
        have K25 : ∀ lv : jL, lv 0 = some (jR (some 76)) → lv 1 = some (jI x1) → lv 2 = some (jI x2) → lv 3 = some (jI x3) → lv 4 = some (jI x4) → lv 5 = some (jI v4) → ey (mm_xt L xs) 2 363 98 lv [jI (if (jw (jd_204 (jw x4) 0 (jw ((jd_206 v23 x2) - 1)))) = 0 then 0 else 1)] (jhm b m1) (.inl (some (jcv (jI o.1)), jaH (jhm b o.2))) := by
          intro lv g0 g1 g2 g3 g4 g5
          exact jk_363_b98 hb h6 e lv g0 g1 g2 g3 g4 g5
        by_cases q26 : (jw (jd_204 (jw x4) 0 (jw ((jd_206 v23 x2) - 1)))) = 0
        · refine ey_zeq (cd_363 rfl) rfl rfl q26 ?_
          refine ey_iconst (cd_363 rfl) ?_
          exact ey_rs (s0 := [jI 0]) (s1 := [jI (if (jw (jd_204 (jw x4) 0 (jw ((jd_206 v23 x2) - 1)))) = 0 then 0 else 1)]) (by rw [show ((if (jw (jd_204 (jw x4) 0 (jw ((jd_206 v23 x2) - 1)))) = 0 then 0 else 1) : Int) = 0 from (if_pos q26)]) (K25 (jup lv 5 (jI v4)) f0 f1 f2 f3 (jup_pi (lv := lv) (j := 4) (v := jI v4) (z := x4) f4) rfl)
        · refine ey_yeq (cd_363 rfl) rfl rfl q26 ?_
          refine ey_iconst (cd_363 rfl) ?_
          refine ey_goto (cd_363 rfl) rfl ?_
          exact ey_rs (s0 := [jI 1]) (s1 := [jI (if (jw (jd_204 (jw x4) 0 (jw ((jd_206 v23 x2) - 1)))) = 0 then 0 else 1)]) (by rw [show ((if (jw (jd_204 (jw x4) 0 (jw ((jd_206 v23 x2) - 1)))) = 0 then 0 else 1) : Int) = 1 from (if_neg q26)]) (K25 (jup lv 5 (jI v4)) f0 f1 f2 f3 (jup_pi (lv := lv) (j := 4) (v := jI v4) (z := x4) f4) rfl)
  · rw [if_neg q3] at e
    refine ey_yle (cd_363 rfl) rfl rfl q3 ?_
    refine ey_iconst (cd_363 rfl) ?_
    cases e
    exact ey_reti (cd_363 rfl) mt_363 rfl
set_option maxRecDepth 100000 in
theorem ok_363 {L : Nat} {xs : Nat → Int32} {b : jH} (hb : 152 ≤ b.1) (h6 : b.1 ≤ 1000000) {p0 : Int} {p1 : Int} {p2 : Int} {p3 : Int} {m : jM} {o : (Int × jM)} (e : jd_363 p0 p1 p2 p3 m = some o) : mm_Runs (mm_xt L xs) 3 363 ([jR (some 76), jI p0, jI p1, jI p2, jI p3].map jcv) (jaH (jhm b m)) (.inl (some (jcv (jI o.1)), jaH (jhm b o.2))) := by
  refine ey_run0 _ mt_363 (jsl_s rfl) ?_
  unfold jd_363 at e
  refine ey_aload_n (cd_363 rfl) rfl ?_
  refine ey_iload_n (cd_363 rfl) rfl ?_
  refine ey_cs (s0 := [jI p0, jR (some 76)]) (s1 := [jR (some 76)]) (st' := [jI (jd_355 p0), jR (some 76)]) (cd_363 rfl) mt_363 mt_355 rfl (by decide) rfl rfl (jsml_s rfl) rfl (ok_355 ) ?_
  have K27 : ∀ lv : jL, lv 0 = some (jR (some 76)) → lv 1 = some (jI p0) → lv 2 = some (jI p1) → lv 3 = some (jI p2) → lv 4 = some (jI p3) → ey (mm_xt L xs) 2 363 20 lv [jI (if (jw (jd_355 p0)) = 0 then 1 else (if (jw (jd_211 p1)) = 0 then 1 else 0)), jR (some 76)] (jhm b m) (.inl (some (jcv (jI o.1)), jaH (jhm b o.2))) := by
    intro lv g0 g1 g2 g3 g4
    exact jk_363_b20 hb h6 e lv g0 g1 g2 g3 g4
  by_cases q28 : (jw (jd_355 p0)) = 0
  · refine ey_zeq (cd_363 rfl) rfl rfl q28 ?_
    refine ey_iconst (cd_363 rfl) ?_
    refine ey_goto (cd_363 rfl) rfl ?_
    exact ey_rs (s0 := [jI 1, jR (some 76)]) (s1 := [jI (if (jw (jd_355 p0)) = 0 then 1 else (if (jw (jd_211 p1)) = 0 then 1 else 0)), jR (some 76)]) (by rw [show ((if (jw (jd_355 p0)) = 0 then 1 else (if (jw (jd_211 p1)) = 0 then 1 else 0)) : Int) = 1 from (if_pos q28)]) (K27 (jlf (jla 0 [jR (some 76), jI p0, jI p1, jI p2, jI p3])) rfl rfl rfl rfl rfl)
  · refine ey_yeq (cd_363 rfl) rfl rfl q28 ?_
    refine ey_iload_n (cd_363 rfl) rfl ?_
    refine ey_cs (s0 := [jI p1, jR (some 76)]) (s1 := [jR (some 76)]) (st' := [jI (jd_211 p1), jR (some 76)]) (cd_363 rfl) mt_363 mt_211 rfl (by decide) rfl rfl (jsml_s rfl) rfl (ok_211 ) ?_
    by_cases q29 : (jw (jd_211 p1)) = 0
    · refine ey_yne (cd_363 rfl) rfl rfl (fun w => w q29) ?_
      refine ey_iconst (cd_363 rfl) ?_
      refine ey_goto (cd_363 rfl) rfl ?_
      exact ey_rs (s0 := [jI 1, jR (some 76)]) (s1 := [jI (if (jw (jd_355 p0)) = 0 then 1 else (if (jw (jd_211 p1)) = 0 then 1 else 0)), jR (some 76)]) (by rw [show ((if (jw (jd_355 p0)) = 0 then 1 else (if (jw (jd_211 p1)) = 0 then 1 else 0)) : Int) = 1 from ((if_neg q28).trans (if_pos q29))]) (K27 (jlf (jla 0 [jR (some 76), jI p0, jI p1, jI p2, jI p3])) rfl rfl rfl rfl rfl)
    · refine ey_zne (cd_363 rfl) rfl rfl q29 ?_
      refine ey_iconst (cd_363 rfl) ?_
      exact ey_rs (s0 := [jI 0, jR (some 76)]) (s1 := [jI (if (jw (jd_355 p0)) = 0 then 1 else (if (jw (jd_211 p1)) = 0 then 1 else 0)), jR (some 76)]) (by rw [show ((if (jw (jd_355 p0)) = 0 then 1 else (if (jw (jd_211 p1)) = 0 then 1 else 0)) : Int) = 0 from ((if_neg q28).trans (if_neg q29))]) (K27 (jlf (jla 0 [jR (some 76), jI p0, jI p1, jI p2, jI p3])) rfl rfl rfl rfl rfl)
theorem cd_364 {pc : Nat} {i : Instr × Nat} (h : mm_lk mm_c364 pc = some i) : mm_cd 364 pc = some i := h
theorem mt_364 : mm_MT 364 = (12, 2, some .int, 1, 0, []) := rfl
set_option maxRecDepth 100000 in
theorem ok_364 {L : Nat} {xs : Nat → Int32} {b : jH} (hb : 152 ≤ b.1) (h6 : b.1 ≤ 1000000) {p0 : Int} {m : jM} {o : (Int × jM)} (e : jd_364 p0 m = some o) : mm_Runs (mm_xt L xs) 2 364 ([jR (some 76), jI p0].map jcv) (jaH (jhm b m)) (.inl (some (jcv (jI o.1)), jaH (jhm b o.2))) := by
  refine ey_run0 _ mt_364 (jsl_s rfl) ?_
  unfold jd_364 at e
  refine ey_aload_n (cd_364 rfl) rfl ?_
  refine ey_iload_n (cd_364 rfl) rfl ?_
  refine ey_i2l (cd_364 rfl) ?_
  refine ey_lconst0 (cd_364 rfl) ?_
  refine ey_ldc2 (z := 5) (cd_364 rfl) mt_364 rfl (by decide) ?_
  refine ey_cs (s0 := [jJ 5, jJ 0, jJ (jw p0), jR (some 76)]) (s1 := [jR (some 76)]) (st' := [jI (jd_204 (jw p0) 0 5), jR (some 76)]) (cd_364 rfl) mt_364 mt_204 rfl (by decide) rfl rfl (jsml_s rfl) rfl (ok_204 ) ?_
  have K9 : ∀ lv : jL, lv 0 = some (jR (some 76)) → lv 1 = some (jI p0) → ey (mm_xt L xs) 1 364 18 lv [jI (if (jw (jd_204 (jw p0) 0 5)) = 0 then 1 else 0), jR (some 76)] (jhm b m) (.inl (some (jcv (jI o.1)), jaH (jhm b o.2))) := by
    intro lv g0 g1
    obtain ⟨m1, e2, e⟩ := jbind e
    refine ey_putf_i (cd_364 rfl) mt_364 rfl rfl rfl (jhm_pi' (k := 0) hb e2) ?_
    refine ey_iload_n (cd_364 rfl) g1 ?_
    by_cases q3 : (jw p0) = 0
    · rw [if_pos q3] at e
      refine ey_tsw (cd_364 rfl) q3 (by decide) rfl rfl ?_
      refine ey_aload_n (cd_364 rfl) g0 ?_
      refine ey_getf_i (z := (m1 76 1)) (cd_364 rfl) mt_364 rfl rfl rfl (jhm_gi hb 1) ?_
      cases e
      exact ey_reti (cd_364 rfl) mt_364 rfl
    · rw [if_neg q3] at e
      by_cases q4 : (jw p0) = 1
      · rw [if_pos q4] at e
        refine ey_tsw (cd_364 rfl) q4 (by decide) rfl rfl ?_
        refine ey_aload_n (cd_364 rfl) g0 ?_
        refine ey_getf_i (z := (m1 76 12)) (cd_364 rfl) mt_364 rfl rfl rfl (jhm_gi hb 12) ?_
        cases e
        exact ey_reti (cd_364 rfl) mt_364 rfl
      · rw [if_neg q4] at e
        by_cases q5 : (jw p0) = 2
        · rw [if_pos q5] at e
          refine ey_tsw (cd_364 rfl) q5 (by decide) rfl rfl ?_
          refine ey_aload_n (cd_364 rfl) g0 ?_
          refine ey_getf_i (z := (m1 76 92)) (cd_364 rfl) mt_364 rfl rfl rfl (jhm_gi hb 92) ?_
          cases e
          exact ey_reti (cd_364 rfl) mt_364 rfl
        · rw [if_neg q5] at e
          by_cases q6 : (jw p0) = 3
          · rw [if_pos q6] at e
            refine ey_tsw (cd_364 rfl) q6 (by decide) rfl rfl ?_
            refine ey_aload_n (cd_364 rfl) g0 ?_
            refine ey_getf_i (z := (m1 76 7)) (cd_364 rfl) mt_364 rfl rfl rfl (jhm_gi hb 7) ?_
            cases e
            exact ey_reti (cd_364 rfl) mt_364 rfl
          · rw [if_neg q6] at e
            by_cases q7 : (jw p0) = 4
            · rw [if_pos q7] at e
              refine ey_tsw (cd_364 rfl) q7 (by decide) rfl rfl ?_
              refine ey_aload_n (cd_364 rfl) g0 ?_
              refine ey_getf_i (z := (m1 76 86)) (cd_364 rfl) mt_364 rfl rfl rfl (jhm_gi hb 86) ?_
              cases e
              exact ey_reti (cd_364 rfl) mt_364 rfl
            · rw [if_neg q7] at e
              by_cases q8 : (jw p0) = 5
              · rw [if_pos q8] at e
                refine ey_tsw (cd_364 rfl) q8 (by decide) rfl rfl ?_
                refine ey_aload_n (cd_364 rfl) g0 ?_
                refine ey_getf_i (z := (m1 76 5)) (cd_364 rfl) mt_364 rfl rfl rfl (jhm_gi hb 5) ?_
                cases e
                exact ey_reti (cd_364 rfl) mt_364 rfl
              · rw [if_neg q8] at e
                refine ey_tsw_d (cd_364 rfl) (by omega) rfl ?_
                refine ey_iconst (cd_364 rfl) ?_
                cases e
                exact ey_reti (cd_364 rfl) mt_364 rfl
  by_cases q10 : (jw (jd_204 (jw p0) 0 5)) = 0
  · refine ey_zeq (cd_364 rfl) rfl rfl q10 ?_
    refine ey_iconst (cd_364 rfl) ?_
    exact ey_rs (s0 := [jI 1, jR (some 76)]) (s1 := [jI (if (jw (jd_204 (jw p0) 0 5)) = 0 then 1 else 0), jR (some 76)]) (by rw [show ((if (jw (jd_204 (jw p0) 0 5)) = 0 then 1 else 0) : Int) = 1 from (if_pos q10)]) (K9 (jlf (jla 0 [jR (some 76), jI p0])) rfl rfl)
  · refine ey_yeq (cd_364 rfl) rfl rfl q10 ?_
    refine ey_iconst (cd_364 rfl) ?_
    refine ey_goto (cd_364 rfl) rfl ?_
    exact ey_rs (s0 := [jI 0, jR (some 76)]) (s1 := [jI (if (jw (jd_204 (jw p0) 0 5)) = 0 then 1 else 0), jR (some 76)]) (by rw [show ((if (jw (jd_204 (jw p0) 0 5)) = 0 then 1 else 0) : Int) = 0 from (if_neg q10)]) (K9 (jlf (jla 0 [jR (some 76), jI p0])) rfl rfl)
