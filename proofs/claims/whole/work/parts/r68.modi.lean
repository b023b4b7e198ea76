theorem cd_347 {pc : Nat} {i : Instr × Nat} (h : mm_lk mm_c347 pc = some i) : mm_cd 347 pc = some i := h
theorem mt_347 : mm_MT 347 = (12, 7, some .int, 3, 0, []) := rfl
set_option maxRecDepth 100000 in
theorem jk_347_s110 {L : Nat} {xs : Nat → Int32} {b : jH} (hb : 152 ≤ b.1) (h6 : b.1 ≤ 1000000) {x1 : Int} {x2 : Int} {x3 : Int} {x4 : Int} {x5 : Int} {x6 : Int} {m : jM} {o : ((Int × jM) ⊕ jM)} {r : mm_R} (e : jd_347_s110 x1 x2 x3 x4 x5 x6 m = some o) (K : jsm (fun s => (∀ lv : jL, lv 0 = some (jR (some 76)) → lv 1 = some (jI x1) → lv 2 = some (jI x2) → lv 3 = some (jI x3) → lv 4 = some (jI x4) → lv 5 = some (jI x5) → lv 6 = some (jI s.1) → ey (mm_xt L xs) 3 347 110 lv [] (jhm b s.2) r)) (fun x => (∀ lv : jL, lv 0 = some (jR (some 76)) → lv 1 = some (jI x1) → lv 2 = some (jI x2) → lv 3 = some (jI x3) → lv 4 = some (jI x4) → ey (mm_xt L xs) 3 347 177 lv [] (jhm b x) r)) o) : ∀ lv : jL, lv 0 = some (jR (some 76)) → lv 1 = some (jI x1) → lv 2 = some (jI x2) → lv 3 = some (jI x3) → lv 4 = some (jI x4) → lv 5 = some (jI x5) → lv 6 = some (jI x6) → ey (mm_xt L xs) 3 347 110 lv [] (jhm b m) r := by
  intro lv f0 f1 f2 f3 f4 f5 f6
  unfold jd_347_s110 at e
  refine ey_iload (cd_347 rfl) f6 ?_
  refine ey_aload_n (cd_347 rfl) f0 ?_
  refine ey_iload_n (cd_347 rfl) f2 ?_
  refine ey_iload (cd_347 rfl) f4 ?_
  obtain ⟨v15, e16, e⟩ := jbind e
  refine ey_cv (s0 := [jI x4, jI x2, jR (some 76), jI x6]) (s1 := [jI x6]) (st' := [jI v15, jI x6]) (cd_347 rfl) mt_347 mt_213 rfl rfl rfl (jhm_is hb) rfl (jsml_s rfl) rfl (mm_Runs.up (d := 2) (by decide) (ok_213 hb h6 e16)) ?_
  by_cases q17 : (jw v15) ≤ (jw x6)
  · rw [if_pos q17] at e
    refine ey_cge (cd_347 rfl) rfl rfl rfl q17 ?_
    cases e
    exact K lv f0 f1 f2 f3 f4
  · rw [if_neg q17] at e
    refine ey_nge (cd_347 rfl) rfl rfl rfl q17 ?_
    refine ey_aload_n (cd_347 rfl) f0 ?_
    refine ey_getf_r (cd_347 rfl) mt_347 rfl rfl rfl (jhm_gr (q := 79) hb rfl) ?_
    refine ey_sipush (cd_347 rfl) (by decide) ?_
    refine ey_aload_n (cd_347 rfl) f0 ?_
    refine ey_getf_i (z := (m 76 1)) (cd_347 rfl) mt_347 rfl rfl rfl (jhm_gi hb 1) ?_
    refine ey_imul (cd_347 rfl) ?_
    refine ey_iload (cd_347 rfl) f4 ?_
    refine ey_cs (s0 := [jI x4, jI (864 * (m 76 1)), jR (some 79)]) (s1 := [jI (864 * (m 76 1)), jR (some 79)]) (st' := [jI (jd_207 x4), jI (864 * (m 76 1)), jR (some 79)]) (cd_347 rfl) mt_347 mt_207 rfl (by decide) rfl rfl (jsml_s rfl) rfl (mm_Runs.up (d := 1) (by decide) (ok_207 )) ?_
    refine ey_iadd (cd_347 rfl) ?_
    refine ey_iload (cd_347 rfl) f6 ?_
    refine ey_iadd (cd_347 rfl) ?_
    refine ey_aload_n (cd_347 rfl) f0 ?_
    refine ey_iload_n (cd_347 rfl) f1 ?_
    refine ey_iload_n (cd_347 rfl) f2 ?_
    refine ey_iload (cd_347 rfl) f4 ?_
    refine ey_iload (cd_347 rfl) f6 ?_
    refine ey_iload (cd_347 rfl) f5 ?_
    obtain ⟨u18, e19, e⟩ := jbind e
    refine ey_irem (cd_347 rfl) (jnz_s e19) ?_
    refine ey_iload (cd_347 rfl) f6 ?_
    refine ey_iload (cd_347 rfl) f5 ?_
    obtain ⟨u20, e21, e⟩ := jbind e
    refine ey_idiv (cd_347 rfl) (jnz_s e21) ?_
    refine ey_iload_n (cd_347 rfl) f3 ?_
    obtain ⟨q22, e23, e⟩ := jbind e
    refine ey_cv (s0 := [jI x3, jI (jdiv x6 x5), jI (jrem x6 x5), jI x4, jI x2, jI x1, jR (some 76), jI (((864 * (m 76 1)) + (jd_207 x4)) + x6), jR (some 79)]) (s1 := [jI (((864 * (m 76 1)) + (jd_207 x4)) + x6), jR (some 79)]) (st' := [jI q22.1, jI (((864 * (m 76 1)) + (jd_207 x4)) + x6), jR (some 79)]) (cd_347 rfl) mt_347 mt_345 rfl rfl rfl (jhm_is hb) rfl (jsml_s rfl) rfl (ok_345 hb h6 e23) ?_
    refine ey_i2l (cd_347 rfl) ?_
    refine ey_iconst (cd_347 rfl) ?_
    refine ey_sipush (cd_347 rfl) (by decide) ?_
    refine ey_cs (s0 := [jI 255, jI 0, jJ (jw q22.1), jI (((864 * (m 76 1)) + (jd_207 x4)) + x6), jR (some 79)]) (s1 := [jI (((864 * (m 76 1)) + (jd_207 x4)) + x6), jR (some 79)]) (st' := [jI (jd_205 (jw q22.1) 0 255), jI (((864 * (m 76 1)) + (jd_207 x4)) + x6), jR (some 79)]) (cd_347 rfl) mt_347 mt_205 rfl (by decide) rfl rfl (jsml_s rfl) rfl (mm_Runs.up (d := 1) (by decide) (ok_205 )) ?_
    obtain ⟨m24, e25, e⟩ := jbind e
    refine ey_iast (cd_347 rfl) (jhm_ta hb (by decide) rfl e25) ?_
    refine ey_iinc (cd_347 rfl) mt_347 rfl f6 ?_
    refine ey_goto (cd_347 rfl) rfl ?_
    cases e
    exact K (jup lv 6 (jI (x6 + 1))) f0 f1 f2 f3 f4 (jup_pi (lv := lv) (j := 5) (v := jI (x6 + 1)) (z := x5) f5) rfl
theorem jk_347_l110 {L : Nat} {xs : Nat → Int32} {b : jH} (hb : 152 ≤ b.1) (h6 : b.1 ≤ 1000000) {x1 : Int} {x2 : Int} {x3 : Int} {x4 : Int} {x5 : Int} {x6 : Int} {m : jM} {x : jM} {r : mm_R} (e : jd_347_l110 x1 x2 x3 x4 x5 x6 m = some x) (K : (∀ lv : jL, lv 0 = some (jR (some 76)) → lv 1 = some (jI x1) → lv 2 = some (jI x2) → lv 3 = some (jI x3) → lv 4 = some (jI x4) → ey (mm_xt L xs) 3 347 177 lv [] (jhm b x) r)) : ∀ lv : jL, lv 0 = some (jR (some 76)) → lv 1 = some (jI x1) → lv 2 = some (jI x2) → lv 3 = some (jI x3) → lv 4 = some (jI x4) → lv 5 = some (jI x5) → lv 6 = some (jI x6) → ey (mm_xt L xs) 3 347 110 lv [] (jhm b m) r := by
  unfold jd_347_l110 at e
  exact jlp_ok2 (P := fun s => ∀ lv : jL, lv 0 = some (jR (some 76)) → lv 1 = some (jI x1) → lv 2 = some (jI x2) → lv 3 = some (jI x3) → lv 4 = some (jI x4) → lv 5 = some (jI x5) → lv 6 = some (jI s.1) → ey (mm_xt L xs) 3 347 110 lv [] (jhm b s.2) r) (Q := fun x => (∀ lv : jL, lv 0 = some (jR (some 76)) → lv 1 = some (jI x1) → lv 2 = some (jI x2) → lv 3 = some (jI x3) → lv 4 = some (jI x4) → ey (mm_xt L xs) 3 347 177 lv [] (jhm b x) r)) (fun s q hq hk => jk_347_s110 hb h6 hq hk) jfu _ x e K
set_option maxRecDepth 100000 in
theorem jk_347_s88 {L : Nat} {xs : Nat → Int32} {b : jH} (hb : 152 ≤ b.1) (h6 : b.1 ≤ 1000000) {x1 : Int} {x2 : Int} {x3 : Int} {x4 : Int} {m : jM} {o : ((Int × jM) ⊕ jM)} {r : mm_R} (e : jd_347_s88 x1 x2 x3 x4 m = some o) (K : jsm (fun s => (∀ lv : jL, lv 0 = some (jR (some 76)) → lv 1 = some (jI x1) → lv 2 = some (jI x2) → lv 3 = some (jI x3) → lv 4 = some (jI s.1) → ey (mm_xt L xs) 3 347 88 lv [] (jhm b s.2) r)) (fun x => (∀ lv : jL, lv 0 = some (jR (some 76)) → ey (mm_xt L xs) 3 347 183 lv [] (jhm b x) r)) o) : ∀ lv : jL, lv 0 = some (jR (some 76)) → lv 1 = some (jI x1) → lv 2 = some (jI x2) → lv 3 = some (jI x3) → lv 4 = some (jI x4) → ey (mm_xt L xs) 3 347 88 lv [] (jhm b m) r := by
  intro lv f0 f1 f2 f3 f4
  unfold jd_347_s88 at e
  refine ey_iload (cd_347 rfl) f4 ?_
  refine ey_iconst (cd_347 rfl) ?_
  by_cases q12 : 3 ≤ (jw x4)
  · rw [if_pos q12] at e
    refine ey_cge (cd_347 rfl) rfl rfl (show jw 3 = 3 from by decide) q12 ?_
    cases e
    exact K lv f0
  · rw [if_neg q12] at e
    refine ey_nge (cd_347 rfl) rfl rfl (show jw 3 = 3 from by decide) q12 ?_
    refine ey_aload_n (cd_347 rfl) f0 ?_
    refine ey_getf_r (cd_347 rfl) mt_347 rfl rfl rfl (jhm_gr (q := 77) hb rfl) ?_
    refine ey_iload_n (cd_347 rfl) f2 ?_
    obtain ⟨v13, e14, e⟩ := jbind e
    refine ey_iald (cd_347 rfl) (jhm_ai hb h6 (by decide) rfl e14) ?_
    refine ey_iload (cd_347 rfl) f4 ?_
    refine ey_cs (s0 := [jI x4, jI v13]) (s1 := []) (st' := [jI (jd_206 v13 x4)]) (cd_347 rfl) mt_347 mt_206 rfl (by decide) rfl rfl (jsml_s rfl) rfl (mm_Runs.up (d := 1) (by decide) (ok_206 )) ?_
    refine ey_istore (cd_347 rfl) mt_347 rfl ?_
    refine ey_iconst (cd_347 rfl) ?_
    refine ey_istore (cd_347 rfl) mt_347 rfl ?_
    obtain ⟨x26, e27, e⟩ := jbind e
    refine jk_347_l110 hb h6 e27 ?_ (jup (jup lv 5 (jI (jd_206 v13 x4))) 6 (jI 0)) f0 f1 f2 f3 (jup_o rfl (jup_pi (lv := lv) (j := 4) (v := jI (jd_206 v13 x4)) (z := x4) f4)) (jup_pi (lv := (jup lv 5 (jI (jd_206 v13 x4)))) (j := 5) (v := jI 0) (z := (jd_206 v13 x4)) rfl) rfl
    intro lv g0 g1 g2 g3 g4
    refine ey_iinc (cd_347 rfl) mt_347 rfl g4 ?_
    refine ey_goto (cd_347 rfl) rfl ?_
    cases e
    exact K (jup lv 4 (jI (x4 + 1))) g0 g1 g2 (jup_pi (lv := lv) (j := 3) (v := jI (x4 + 1)) (z := x3) g3) rfl
theorem jk_347_l88 {L : Nat} {xs : Nat → Int32} {b : jH} (hb : 152 ≤ b.1) (h6 : b.1 ≤ 1000000) {x1 : Int} {x2 : Int} {x3 : Int} {x4 : Int} {m : jM} {x : jM} {r : mm_R} (e : jd_347_l88 x1 x2 x3 x4 m = some x) (K : (∀ lv : jL, lv 0 = some (jR (some 76)) → ey (mm_xt L xs) 3 347 183 lv [] (jhm b x) r)) : ∀ lv : jL, lv 0 = some (jR (some 76)) → lv 1 = some (jI x1) → lv 2 = some (jI x2) → lv 3 = some (jI x3) → lv 4 = some (jI x4) → ey (mm_xt L xs) 3 347 88 lv [] (jhm b m) r := by
  unfold jd_347_l88 at e
  exact jlp_ok2 (P := fun s => ∀ lv : jL, lv 0 = some (jR (some 76)) → lv 1 = some (jI x1) → lv 2 = some (jI x2) → lv 3 = some (jI x3) → lv 4 = some (jI s.1) → ey (mm_xt L xs) 3 347 88 lv [] (jhm b s.2) r) (Q := fun x => (∀ lv : jL, lv 0 = some (jR (some 76)) → ey (mm_xt L xs) 3 347 183 lv [] (jhm b x) r)) (fun s q hq hk => jk_347_s88 hb h6 hq hk) jfu _ x e K
set_option maxRecDepth 100000 in
theorem jk_347_b43 {L : Nat} {xs : Nat → Int32} {b : jH} (hb : 152 ≤ b.1) (h6 : b.1 ≤ 1000000) {x1 : Int} {x2 : Int} {x3 : Int} {y0 : Int} {m : jM} {o : (Int × jM)} (e : jd_347_b43 x1 x2 x3 y0 m = some o) : ∀ lv : jL, lv 0 = some (jR (some 76)) → lv 1 = some (jI x1) → lv 2 = some (jI x2) → lv 3 = some (jI x3) → ey (mm_xt L xs) 3 347 43 lv [jI y0, jR (some 76)] (jhm b m) (.inl (some (jcv (jI o.1)), jaH (jhm b o.2))) := by
  intro lv f0 f1 f2 f3
  unfold jd_347_b43 at e
  obtain ⟨m1, e2, e⟩ := jbind e
  refine ey_putf_i (cd_347 rfl) mt_347 rfl rfl rfl (jhm_pi' (k := 0) hb e2) ?_
  refine ey_aload_n (cd_347 rfl) f0 ?_
  refine ey_getf_i (z := (m1 76 0)) (cd_347 rfl) mt_347 rfl rfl rfl (jhm_gi hb 0) ?_
  by_cases q3 : (jw (m1 76 0)) ≤ 0
  · rw [if_pos q3] at e
    refine ey_zle (cd_347 rfl) rfl rfl q3 ?_
    refine ey_aload_n (cd_347 rfl) f0 ?_
    refine ey_getf_r (cd_347 rfl) mt_347 rfl rfl rfl (jhm_gr (q := 77) hb rfl) ?_
    refine ey_aload_n (cd_347 rfl) f0 ?_
    refine ey_getf_i (z := (m1 76 1)) (cd_347 rfl) mt_347 rfl rfl rfl (jhm_gi hb 1) ?_
    refine ey_aload_n (cd_347 rfl) f0 ?_
    refine ey_getf_r (cd_347 rfl) mt_347 rfl rfl rfl (jhm_gr (q := 77) hb rfl) ?_
    refine ey_iload_n (cd_347 rfl) f2 ?_
    obtain ⟨v4, e5, e⟩ := jbind e
    refine ey_iald (cd_347 rfl) (jhm_ai hb h6 (by decide) rfl e5) ?_
    obtain ⟨m6, e7, e⟩ := jbind e
    refine ey_iast (cd_347 rfl) (jhm_ta hb (by decide) rfl e7) ?_
    refine ey_aload_n (cd_347 rfl) f0 ?_
    refine ey_getf_r (cd_347 rfl) mt_347 rfl rfl rfl (jhm_gr (q := 78) hb rfl) ?_
    refine ey_aload_n (cd_347 rfl) f0 ?_
    refine ey_getf_i (z := (m6 76 1)) (cd_347 rfl) mt_347 rfl rfl rfl (jhm_gi hb 1) ?_
    refine ey_aload_n (cd_347 rfl) f0 ?_
    refine ey_getf_r (cd_347 rfl) mt_347 rfl rfl rfl (jhm_gr (q := 78) hb rfl) ?_
    refine ey_iload_n (cd_347 rfl) f2 ?_
    obtain ⟨v8, e9, e⟩ := jbind e
    refine ey_iald (cd_347 rfl) (jhm_ai hb h6 (by decide) rfl e9) ?_
    obtain ⟨m10, e11, e⟩ := jbind e
    refine ey_iast (cd_347 rfl) (jhm_ta hb (by decide) rfl e11) ?_
    refine ey_iconst (cd_347 rfl) ?_
    refine ey_istore (cd_347 rfl) mt_347 rfl ?_
    obtain ⟨x28, e29, e⟩ := jbind e
    refine jk_347_l88 hb h6 e29 ?_ (jup lv 4 (jI 0)) f0 f1 f2 (jup_pi (lv := lv) (j := 3) (v := jI 0) (z := x3) f3) rfl
    intro lv g0
    refine ey_aload_n (cd_347 rfl) g0 ?_
    refine ey_dup (cd_347 rfl) rfl ?_
    refine ey_getf_i (z := (x28 76 1)) (cd_347 rfl) mt_347 rfl rfl rfl (jhm_gi hb 1) ?_
    refine ey_iconst (cd_347 rfl) ?_
    refine ey_iadd (cd_347 rfl) ?_
    obtain ⟨m30, e31, e⟩ := jbind e
    refine ey_putf_i (cd_347 rfl) mt_347 rfl rfl rfl (jhm_pi' (k := 1) hb e31) ?_
    refine ey_aload_n (cd_347 rfl) g0 ?_
    refine ey_getf_i (z := (m30 76 1)) (cd_347 rfl) mt_347 rfl rfl rfl (jhm_gi hb 1) ?_
    refine ey_iconst (cd_347 rfl) ?_
    refine ey_isub (cd_347 rfl) ?_
    cases e
    exact ey_reti (cd_347 rfl) mt_347 rfl
  · rw [if_neg q3] at e
    refine ey_yle (cd_347 rfl) rfl rfl q3 ?_
    refine ey_iconst (cd_347 rfl) ?_
    cases e
    exact ey_reti (cd_347 rfl) mt_347 rfl
set_option maxRecDepth 100000 in
theorem ok_347 {L : Nat} {xs : Nat → Int32} {b : jH} (hb : 152 ≤ b.1) (h6 : b.1 ≤ 1000000) {p0 : Int} {p1 : Int} {p2 : Int} {m : jM} {o : (Int × jM)} (e : jd_347 p0 p1 p2 m = some o) : mm_Runs (mm_xt L xs) 4 347 ([jR (some 76), jI p0, jI p1, jI p2].map jcv) (jaH (jhm b m)) (.inl (some (jcv (jI o.1)), jaH (jhm b o.2))) := by
  refine ey_run0 _ mt_347 (jsl_s rfl) ?_
  unfold jd_347 at e
  refine ey_aload_n (cd_347 rfl) rfl ?_
  refine ey_iload_n (cd_347 rfl) rfl ?_
  refine ey_i2l (cd_347 rfl) ?_
  refine ey_lconst0 (cd_347 rfl) ?_
  refine ey_aload_n (cd_347 rfl) rfl ?_
  refine ey_getf_i (z := (m 76 92)) (cd_347 rfl) mt_347 rfl rfl rfl (jhm_gi hb 92) ?_
  refine ey_iconst (cd_347 rfl) ?_
  refine ey_isub (cd_347 rfl) ?_
  refine ey_i2l (cd_347 rfl) ?_
  refine ey_cs (s0 := [jJ (jw ((m 76 92) - 1)), jJ 0, jJ (jw p0), jR (some 76)]) (s1 := [jR (some 76)]) (st' := [jI (jd_204 (jw p0) 0 (jw ((m 76 92) - 1))), jR (some 76)]) (cd_347 rfl) mt_347 mt_204 rfl (by decide) rfl rfl (jsml_s rfl) rfl (mm_Runs.up (d := 1) (by decide) (ok_204 )) ?_
  have K32 : ∀ lv : jL, lv 0 = some (jR (some 76)) → lv 1 = some (jI p0) → lv 2 = some (jI p1) → lv 3 = some (jI p2) → ey (mm_xt L xs) 3 347 43 lv [jI (if (jw (jd_204 (jw p0) 0 (jw ((m 76 92) - 1)))) = 0 then 1 else (if (jw (jd_210 p1 m)) = 0 then 1 else (if (jw (m 76 1)) = 60 then 2 else 0))), jR (some 76)] (jhm b m) (.inl (some (jcv (jI o.1)), jaH (jhm b o.2))) := by
    intro lv g0 g1 g2 g3
    exact jk_347_b43 hb h6 e lv g0 g1 g2 g3
  by_cases q33 : (jw (jd_204 (jw p0) 0 (jw ((m 76 92) - 1)))) = 0
  · refine ey_zeq (cd_347 rfl) rfl rfl q33 ?_
    refine ey_iconst (cd_347 rfl) ?_
    refine ey_goto (cd_347 rfl) rfl ?_
    exact ey_rs (s0 := [jI 1, jR (some 76)]) (s1 := [jI (if (jw (jd_204 (jw p0) 0 (jw ((m 76 92) - 1)))) = 0 then 1 else (if (jw (jd_210 p1 m)) = 0 then 1 else (if (jw (m 76 1)) = 60 then 2 else 0))), jR (some 76)]) (by rw [show ((if (jw (jd_204 (jw p0) 0 (jw ((m 76 92) - 1)))) = 0 then 1 else (if (jw (jd_210 p1 m)) = 0 then 1 else (if (jw (m 76 1)) = 60 then 2 else 0))) : Int) = 1 from (if_pos q33)]) (K32 (jlf (jla 0 [jR (some 76), jI p0, jI p1, jI p2])) rfl rfl rfl rfl)
  · refine ey_yeq (cd_347 rfl) rfl rfl q33 ?_
    refine ey_aload_n (cd_347 rfl) rfl ?_
    refine ey_iload_n (cd_347 rfl) rfl ?_
    refine ey_cv (s0 := [jI p1, jR (some 76), jR (some 76)]) (s1 := [jR (some 76)]) (st' := [jI (jd_210 p1 m), jR (some 76)]) (cd_347 rfl) mt_347 mt_210 rfl rfl rfl (jhm_is hb) rfl (jsml_s rfl) rfl (mm_Runs.up (d := 2) (by decide) (ok_210 hb h6 )) ?_
    by_cases q34 : (jw (jd_210 p1 m)) = 0
    · refine ey_yne (cd_347 rfl) rfl rfl (fun w => w q34) ?_
      refine ey_iconst (cd_347 rfl) ?_
      refine ey_goto (cd_347 rfl) rfl ?_
      exact ey_rs (s0 := [jI 1, jR (some 76)]) (s1 := [jI (if (jw (jd_204 (jw p0) 0 (jw ((m 76 92) - 1)))) = 0 then 1 else (if (jw (jd_210 p1 m)) = 0 then 1 else (if (jw (m 76 1)) = 60 then 2 else 0))), jR (some 76)]) (by rw [show ((if (jw (jd_204 (jw p0) 0 (jw ((m 76 92) - 1)))) = 0 then 1 else (if (jw (jd_210 p1 m)) = 0 then 1 else (if (jw (m 76 1)) = 60 then 2 else 0))) : Int) = 1 from ((if_neg q33).trans (if_pos q34))]) (K32 (jlf (jla 0 [jR (some 76), jI p0, jI p1, jI p2])) rfl rfl rfl rfl)
    · refine ey_zne (cd_347 rfl) rfl rfl q34 ?_
      refine ey_aload_n (cd_347 rfl) rfl ?_
      refine ey_getf_i (z := (m 76 1)) (cd_347 rfl) mt_347 rfl rfl rfl (jhm_gi hb 1) ?_
      refine ey_bipush (cd_347 rfl) (by decide) ?_
      by_cases q35 : (jw (m 76 1)) = 60
      · refine ey_nne (cd_347 rfl) rfl rfl (show jw 60 = 60 from by decide) (fun w => w q35) ?_
        refine ey_iconst (cd_347 rfl) ?_
        refine ey_goto (cd_347 rfl) rfl ?_
        exact ey_rs (s0 := [jI 2, jR (some 76)]) (s1 := [jI (if (jw (jd_204 (jw p0) 0 (jw ((m 76 92) - 1)))) = 0 then 1 else (if (jw (jd_210 p1 m)) = 0 then 1 else (if (jw (m 76 1)) = 60 then 2 else 0))), jR (some 76)]) (by rw [show ((if (jw (jd_204 (jw p0) 0 (jw ((m 76 92) - 1)))) = 0 then 1 else (if (jw (jd_210 p1 m)) = 0 then 1 else (if (jw (m 76 1)) = 60 then 2 else 0))) : Int) = 2 from ((if_neg q33).trans ((if_neg q34).trans (if_pos q35)))]) (K32 (jlf (jla 0 [jR (some 76), jI p0, jI p1, jI p2])) rfl rfl rfl rfl)
      · refine ey_cne (cd_347 rfl) rfl rfl (show jw 60 = 60 from by decide) q35 ?_
        refine ey_iconst (cd_347 rfl) ?_
        exact ey_rs (s0 := [jI 0, jR (some 76)]) (s1 := [jI (if (jw (jd_204 (jw p0) 0 (jw ((m 76 92) - 1)))) = 0 then 1 else (if (jw (jd_210 p1 m)) = 0 then 1 else (if (jw (m 76 1)) = 60 then 2 else 0))), jR (some 76)]) (by rw [show ((if (jw (jd_204 (jw p0) 0 (jw ((m 76 92) - 1)))) = 0 then 1 else (if (jw (jd_210 p1 m)) = 0 then 1 else (if (jw (m 76 1)) = 60 then 2 else 0))) : Int) = 0 from ((if_neg q33).trans ((if_neg q34).trans (if_neg q35)))]) (K32 (jlf (jla 0 [jR (some 76), jI p0, jI p1, jI p2])) rfl rfl rfl rfl)
theorem cd_348 {pc : Nat} {i : Instr × Nat} (h : mm_lk mm_c348 pc = some i) : mm_cd 348 pc = some i := h
theorem mt_348 : mm_MT 348 = (12, 9, some .int, 3, 0, []) := rfl
set_option maxRecDepth 100000 in
theorem jk_348_b245 {L : Nat} {xs : Nat → Int32} {b : jH} (hb : 152 ≤ b.1) (h6 : b.1 ≤ 1000000) {x1 : Int} {x2 : Int} {x3 : Int} {x5 : Int} {x6 : Int} {x7 : Int} {m : jM} {o : ((Int × Int) ⊕ Int)} {r : mm_R} (e : jd_348_b245 x1 x2 x3 x5 x6 x7 m = some o) (K : jsm (fun s => (∀ lv : jL, lv 0 = some (jR (some 76)) → lv 1 = some (jI x1) → lv 2 = some (jI x2) → lv 3 = some (jI x3) → lv 5 = some (jI s.1) → lv 6 = some (jI x6) → lv 7 = some (jI s.2) → ey (mm_xt L xs) 2 348 116 lv [] (jhm b m) r)) (fun x => (∀ lv : jL, lv 0 = some (jR (some 76)) → lv 1 = some (jI x1) → lv 2 = some (jI x2) → lv 3 = some (jI x3) → lv 5 = some (jI x) → lv 6 = some (jI x6) → ey (mm_xt L xs) 2 348 251 lv [] (jhm b m) r)) o) : ∀ lv : jL, lv 0 = some (jR (some 76)) → lv 1 = some (jI x1) → lv 2 = some (jI x2) → lv 3 = some (jI x3) → lv 5 = some (jI x5) → lv 6 = some (jI x6) → lv 7 = some (jI x7) → ey (mm_xt L xs) 2 348 245 lv [] (jhm b m) r := by
  intro lv f0 f1 f2 f3 f5 f6 f7
  unfold jd_348_b245 at e
  refine ey_iinc (cd_348 rfl) mt_348 rfl f7 ?_
  refine ey_goto (cd_348 rfl) rfl ?_
  cases e
  exact K (jup lv 7 (jI (x7 + 1))) f0 f1 f2 f3 f5 (jup_pi (lv := lv) (j := 6) (v := jI (x7 + 1)) (z := x6) f6) rfl
set_option maxRecDepth 100000 in
theorem jk_348_s116 {L : Nat} {xs : Nat → Int32} {b : jH} (hb : 152 ≤ b.1) (h6 : b.1 ≤ 1000000) {x1 : Int} {x2 : Int} {x3 : Int} {x6 : Int} {x5 : Int} {x7 : Int} {m : jM} {o : ((Int × Int) ⊕ Int)} {r : mm_R} (e : jd_348_s116 x1 x2 x3 x6 x5 x7 m = some o) (K : jsm (fun s => (∀ lv : jL, lv 0 = some (jR (some 76)) → lv 1 = some (jI x1) → lv 2 = some (jI x2) → lv 3 = some (jI x3) → lv 5 = some (jI s.1) → lv 6 = some (jI x6) → lv 7 = some (jI s.2) → ey (mm_xt L xs) 2 348 116 lv [] (jhm b m) r)) (fun x => (∀ lv : jL, lv 0 = some (jR (some 76)) → lv 1 = some (jI x1) → lv 2 = some (jI x2) → lv 3 = some (jI x3) → lv 5 = some (jI x) → lv 6 = some (jI x6) → ey (mm_xt L xs) 2 348 251 lv [] (jhm b m) r)) o) : ∀ lv : jL, lv 0 = some (jR (some 76)) → lv 1 = some (jI x1) → lv 2 = some (jI x2) → lv 3 = some (jI x3) → lv 5 = some (jI x5) → lv 6 = some (jI x6) → lv 7 = some (jI x7) → ey (mm_xt L xs) 2 348 116 lv [] (jhm b m) r := by
  intro lv f0 f1 f2 f3 f5 f6 f7
  unfold jd_348_s116 at e
  refine ey_iload (cd_348 rfl) f7 ?_
  refine ey_aload_n (cd_348 rfl) f0 ?_
  refine ey_iload_n (cd_348 rfl) f1 ?_
  refine ey_iload (cd_348 rfl) f6 ?_
  obtain ⟨v6, e7, e⟩ := jbind e
  refine ey_cv (s0 := [jI x6, jI x1, jR (some 76), jI x7]) (s1 := [jI x7]) (st' := [jI v6, jI x7]) (cd_348 rfl) mt_348 mt_213 rfl rfl rfl (jhm_is hb) rfl (jsml_s rfl) rfl (ok_213 hb h6 e7) ?_
  by_cases q8 : (jw v6) ≤ (jw x7)
  · rw [if_pos q8] at e
    refine ey_cge (cd_348 rfl) rfl rfl rfl q8 ?_
    cases e
    exact K lv f0 f1 f2 f3 f5 f6
  · rw [if_neg q8] at e
    refine ey_nge (cd_348 rfl) rfl rfl rfl q8 ?_
    refine ey_aload_n (cd_348 rfl) f0 ?_
    refine ey_getf_r (cd_348 rfl) mt_348 rfl rfl rfl (jhm_gr (q := 79) hb rfl) ?_
    refine ey_sipush (cd_348 rfl) (by decide) ?_
    refine ey_iload_n (cd_348 rfl) f1 ?_
    refine ey_imul (cd_348 rfl) ?_
    refine ey_iload (cd_348 rfl) f6 ?_
    refine ey_cs (s0 := [jI x6, jI (864 * x1), jR (some 79)]) (s1 := [jI (864 * x1), jR (some 79)]) (st' := [jI (jd_207 x6), jI (864 * x1), jR (some 79)]) (cd_348 rfl) mt_348 mt_207 rfl (by decide) rfl rfl (jsml_s rfl) rfl (mm_Runs.up (d := 1) (by decide) (ok_207 )) ?_
    refine ey_iadd (cd_348 rfl) ?_
    refine ey_iload (cd_348 rfl) f7 ?_
    refine ey_iadd (cd_348 rfl) ?_
    obtain ⟨v9, e10, e⟩ := jbind e
    refine ey_iald (cd_348 rfl) (jhm_ai hb h6 (by decide) rfl e10) ?_
    refine ey_aload_n (cd_348 rfl) f0 ?_
    refine ey_getf_r (cd_348 rfl) mt_348 rfl rfl rfl (jhm_gr (q := 79) hb rfl) ?_
    refine ey_sipush (cd_348 rfl) (by decide) ?_
    refine ey_iload_n (cd_348 rfl) f2 ?_
    refine ey_imul (cd_348 rfl) ?_
    refine ey_iload (cd_348 rfl) f6 ?_
    refine ey_cs (s0 := [jI x6, jI (864 * x2), jR (some 79), jI v9]) (s1 := [jI (864 * x2), jR (some 79), jI v9]) (st' := [jI (jd_207 x6), jI (864 * x2), jR (some 79), jI v9]) (cd_348 rfl) mt_348 mt_207 rfl (by decide) rfl rfl (jsml_s rfl) rfl (mm_Runs.up (d := 1) (by decide) (ok_207 )) ?_
    refine ey_iadd (cd_348 rfl) ?_
    refine ey_iload (cd_348 rfl) f7 ?_
    refine ey_iadd (cd_348 rfl) ?_
    obtain ⟨v11, e12, e⟩ := jbind e
    refine ey_iald (cd_348 rfl) (jhm_ai hb h6 (by decide) rfl e12) ?_
    refine ey_isub (cd_348 rfl) ?_
    refine ey_istore (cd_348 rfl) mt_348 rfl ?_
    refine ey_iload (cd_348 rfl) rfl ?_
    have K21 : ∀ lv : jL, lv 0 = some (jR (some 76)) → lv 1 = some (jI x1) → lv 2 = some (jI x2) → lv 3 = some (jI x3) → lv 5 = some (jI x5) → lv 6 = some (jI x6) → lv 7 = some (jI x7) → ey (mm_xt L xs) 2 348 182 lv [jI (if 0 ≤ (jw (v9 - v11)) then (v9 - v11) else (-(v9 - v11)))] (jhm b m) r := by
      intro lv g0 g1 g2 g3 g5 g6 g7
      obtain ⟨z13, e14, e⟩ := jbind e
      refine ey_rs (s0 := [jI (if 0 ≤ (jw (v9 - v11)) then (v9 - v11) else (-(v9 - v11)))]) (s1 := [jI z13]) (by rw [show (if 0 ≤ (jw (v9 - v11)) then (v9 - v11) else (-(v9 - v11))) = z13 from Option.some.inj e14]) ?_
      refine ey_istore (cd_348 rfl) mt_348 rfl ?_
      refine ey_iload_n (cd_348 rfl) g3 ?_
      refine ey_iconst (cd_348 rfl) ?_
      have K15 : ∀ lv : jL, lv 0 = some (jR (some 76)) → lv 1 = some (jI x1) → lv 2 = some (jI x2) → lv 3 = some (jI x3) → lv 5 = some (jI (if (jw x3) = 3 then (if (jw z13) ≤ (jw x5) then x5 else z13) else (if (jw x3) = 0 then (x5 + z13) else (if (jw x3) = 1 then (x5 + (z13 * z13)) else (if (jw z13) = 0 then (x5 + 0) else (x5 + 1)))))) → lv 6 = some (jI x6) → lv 7 = some (jI x7) → ey (mm_xt L xs) 2 348 245 lv [] (jhm b m) r := by
        intro lv g0 g1 g2 g3 g5 g6 g7
        exact jk_348_b245 hb h6 e K lv g0 g1 g2 g3 g5 g6 g7
      by_cases q16 : (jw x3) = 3
      · refine ey_nne (cd_348 rfl) rfl rfl (show jw 3 = 3 from by decide) (fun w => w q16) ?_
        refine ey_iload (cd_348 rfl) rfl ?_
        refine ey_iload (cd_348 rfl) g5 ?_
        by_cases q17 : (jw z13) ≤ (jw x5)
        · refine ey_cle (cd_348 rfl) rfl rfl rfl q17 ?_
          refine ey_iload (cd_348 rfl) g5 ?_
          refine ey_istore (cd_348 rfl) mt_348 rfl ?_
          refine ey_goto (cd_348 rfl) rfl ?_
          exact K15 (jup (jup lv 8 (jI z13)) 5 (jI x5)) g0 g1 g2 g3 (Eq.trans (show (jup (jup lv 8 (jI z13)) 5 (jI x5)) 5 = some (jI x5) from rfl) (congrArg (fun z => some (jI z)) (Eq.symm ((if_pos q16).trans (if_pos q17))))) g6 (jup_o rfl (jup_pi (lv := lv) (j := 7) (v := jI z13) (z := x7) g7))
        · refine ey_nle (cd_348 rfl) rfl rfl rfl q17 ?_
          refine ey_iload (cd_348 rfl) rfl ?_
          refine ey_goto (cd_348 rfl) rfl ?_
          refine ey_istore (cd_348 rfl) mt_348 rfl ?_
          refine ey_goto (cd_348 rfl) rfl ?_
          exact K15 (jup (jup lv 8 (jI z13)) 5 (jI z13)) g0 g1 g2 g3 (Eq.trans (show (jup (jup lv 8 (jI z13)) 5 (jI z13)) 5 = some (jI z13) from rfl) (congrArg (fun z => some (jI z)) (Eq.symm ((if_pos q16).trans (if_neg q17))))) g6 (jup_o rfl (jup_pi (lv := lv) (j := 7) (v := jI z13) (z := x7) g7))
      · refine ey_cne (cd_348 rfl) rfl rfl (show jw 3 = 3 from by decide) q16 ?_
        refine ey_iload (cd_348 rfl) g5 ?_
        refine ey_iload_n (cd_348 rfl) g3 ?_
        by_cases q18 : (jw x3) = 0
        · refine ey_yne (cd_348 rfl) rfl rfl (fun w => w q18) ?_
          refine ey_iload (cd_348 rfl) rfl ?_
          refine ey_goto (cd_348 rfl) rfl ?_
          refine ey_iadd (cd_348 rfl) ?_
          refine ey_istore (cd_348 rfl) mt_348 rfl ?_
          exact K15 (jup (jup lv 8 (jI z13)) 5 (jI (x5 + z13))) g0 g1 g2 g3 (Eq.trans (show (jup (jup lv 8 (jI z13)) 5 (jI (x5 + z13))) 5 = some (jI (x5 + z13)) from rfl) (congrArg (fun z => some (jI z)) (Eq.symm ((if_neg q16).trans (if_pos q18))))) g6 (jup_o rfl (jup_pi (lv := lv) (j := 7) (v := jI z13) (z := x7) g7))
        · refine ey_zne (cd_348 rfl) rfl rfl q18 ?_
          refine ey_iload_n (cd_348 rfl) g3 ?_
          refine ey_iconst (cd_348 rfl) ?_
          by_cases q19 : (jw x3) = 1
          · refine ey_nne (cd_348 rfl) rfl rfl (show jw 1 = 1 from by decide) (fun w => w q19) ?_
            refine ey_iload (cd_348 rfl) rfl ?_
            refine ey_iload (cd_348 rfl) rfl ?_
            refine ey_imul (cd_348 rfl) ?_
            refine ey_goto (cd_348 rfl) rfl ?_
            refine ey_iadd (cd_348 rfl) ?_
            refine ey_istore (cd_348 rfl) mt_348 rfl ?_
            exact K15 (jup (jup lv 8 (jI z13)) 5 (jI (x5 + (z13 * z13)))) g0 g1 g2 g3 (Eq.trans (show (jup (jup lv 8 (jI z13)) 5 (jI (x5 + (z13 * z13)))) 5 = some (jI (x5 + (z13 * z13))) from rfl) (congrArg (fun z => some (jI z)) (Eq.symm ((if_neg q16).trans ((if_neg q18).trans (if_pos q19)))))) g6 (jup_o rfl (jup_pi (lv := lv) (j := 7) (v := jI z13) (z := x7) g7))
          · refine ey_cne (cd_348 rfl) rfl rfl (show jw 1 = 1 from by decide) q19 ?_
            refine ey_iload (cd_348 rfl) rfl ?_
            by_cases q20 : (jw z13) = 0
            · refine ey_yne (cd_348 rfl) rfl rfl (fun w => w q20) ?_
              refine ey_iconst (cd_348 rfl) ?_
              refine ey_goto (cd_348 rfl) rfl ?_
              refine ey_iadd (cd_348 rfl) ?_
              refine ey_istore (cd_348 rfl) mt_348 rfl ?_
              exact K15 (jup (jup lv 8 (jI z13)) 5 (jI (x5 + 0))) g0 g1 g2 g3 (Eq.trans (show (jup (jup lv 8 (jI z13)) 5 (jI (x5 + 0))) 5 = some (jI (x5 + 0)) from rfl) (congrArg (fun z => some (jI z)) (Eq.symm ((if_neg q16).trans ((if_neg q18).trans ((if_neg q19).trans (if_pos q20))))))) g6 (jup_o rfl (jup_pi (lv := lv) (j := 7) (v := jI z13) (z := x7) g7))
            · refine ey_zne (cd_348 rfl) rfl rfl q20 ?_
              refine ey_iconst (cd_348 rfl) ?_
              refine ey_iadd (cd_348 rfl) ?_
              refine ey_istore (cd_348 rfl) mt_348 rfl ?_
              exact K15 (jup (jup lv 8 (jI z13)) 5 (jI (x5 + 1))) g0 g1 g2 g3 (Eq.trans (show (jup (jup lv 8 (jI z13)) 5 (jI (x5 + 1))) 5 = some (jI (x5 + 1)) from rfl) (congrArg (fun z => some (jI z)) (Eq.symm ((if_neg q16).trans ((if_neg q18).trans ((if_neg q19).trans (if_neg q20))))))) g6 (jup_o rfl (jup_pi (lv := lv) (j := 7) (v := jI z13) (z := x7) g7))
    by_cases q22 : 0 ≤ (jw (v9 - v11))
    · refine ey_zge (cd_348 rfl) rfl rfl q22 ?_
      refine ey_iload (cd_348 rfl) rfl ?_
      exact ey_rs (s0 := [jI (v9 - v11)]) (s1 := [jI (if 0 ≤ (jw (v9 - v11)) then (v9 - v11) else (-(v9 - v11)))]) (by rw [show ((if 0 ≤ (jw (v9 - v11)) then (v9 - v11) else (-(v9 - v11))) : Int) = (v9 - v11) from (if_pos q22)]) (K21 (jup lv 8 (jI (v9 - v11))) f0 f1 f2 f3 f5 f6 (jup_pi (lv := lv) (j := 7) (v := jI (v9 - v11)) (z := x7) f7))
    · refine ey_yge (cd_348 rfl) rfl rfl q22 ?_
      refine ey_iload (cd_348 rfl) rfl ?_
      refine ey_ineg (cd_348 rfl) ?_
      refine ey_goto (cd_348 rfl) rfl ?_
      exact ey_rs (s0 := [jI (-(v9 - v11))]) (s1 := [jI (if 0 ≤ (jw (v9 - v11)) then (v9 - v11) else (-(v9 - v11)))]) (by rw [show ((if 0 ≤ (jw (v9 - v11)) then (v9 - v11) else (-(v9 - v11))) : Int) = (-(v9 - v11)) from (if_neg q22)]) (K21 (jup lv 8 (jI (v9 - v11))) f0 f1 f2 f3 f5 f6 (jup_pi (lv := lv) (j := 7) (v := jI (v9 - v11)) (z := x7) f7))
theorem jk_348_l116 {L : Nat} {xs : Nat → Int32} {b : jH} (hb : 152 ≤ b.1) (h6 : b.1 ≤ 1000000) {x1 : Int} {x2 : Int} {x3 : Int} {x6 : Int} {x5 : Int} {x7 : Int} {m : jM} {x : Int} {r : mm_R} (e : jd_348_l116 x1 x2 x3 x6 x5 x7 m = some x) (K : (∀ lv : jL, lv 0 = some (jR (some 76)) → lv 1 = some (jI x1) → lv 2 = some (jI x2) → lv 3 = some (jI x3) → lv 5 = some (jI x) → lv 6 = some (jI x6) → ey (mm_xt L xs) 2 348 251 lv [] (jhm b m) r)) : ∀ lv : jL, lv 0 = some (jR (some 76)) → lv 1 = some (jI x1) → lv 2 = some (jI x2) → lv 3 = some (jI x3) → lv 5 = some (jI x5) → lv 6 = some (jI x6) → lv 7 = some (jI x7) → ey (mm_xt L xs) 2 348 116 lv [] (jhm b m) r := by
  unfold jd_348_l116 at e
  exact jlp_ok2 (P := fun s => ∀ lv : jL, lv 0 = some (jR (some 76)) → lv 1 = some (jI x1) → lv 2 = some (jI x2) → lv 3 = some (jI x3) → lv 5 = some (jI s.1) → lv 6 = some (jI x6) → lv 7 = some (jI s.2) → ey (mm_xt L xs) 2 348 116 lv [] (jhm b m) r) (Q := fun x => (∀ lv : jL, lv 0 = some (jR (some 76)) → lv 1 = some (jI x1) → lv 2 = some (jI x2) → lv 3 = some (jI x3) → lv 5 = some (jI x) → lv 6 = some (jI x6) → ey (mm_xt L xs) 2 348 251 lv [] (jhm b m) r)) (fun s q hq hk => jk_348_s116 hb h6 hq hk) jfu _ x e K
set_option maxRecDepth 100000 in
theorem jk_348_s98 {L : Nat} {xs : Nat → Int32} {b : jH} (hb : 152 ≤ b.1) (h6 : b.1 ≤ 1000000) {x1 : Int} {x2 : Int} {x3 : Int} {x5 : Int} {x6 : Int} {m : jM} {o : ((Int × Int) ⊕ Int)} {r : mm_R} (e : jd_348_s98 x1 x2 x3 x5 x6 m = some o) (K : jsm (fun s => (∀ lv : jL, lv 0 = some (jR (some 76)) → lv 1 = some (jI x1) → lv 2 = some (jI x2) → lv 3 = some (jI x3) → lv 5 = some (jI s.1) → lv 6 = some (jI s.2) → ey (mm_xt L xs) 2 348 98 lv [] (jhm b m) r)) (fun x => (∀ lv : jL, lv 5 = some (jI x) → ey (mm_xt L xs) 2 348 257 lv [] (jhm b m) r)) o) : ∀ lv : jL, lv 0 = some (jR (some 76)) → lv 1 = some (jI x1) → lv 2 = some (jI x2) → lv 3 = some (jI x3) → lv 5 = some (jI x5) → lv 6 = some (jI x6) → ey (mm_xt L xs) 2 348 98 lv [] (jhm b m) r := by
  intro lv f0 f1 f2 f3 f5 f6
  unfold jd_348_s98 at e
  refine ey_iload (cd_348 rfl) f6 ?_
  refine ey_iload_n (cd_348 rfl) f3 ?_
  refine ey_iconst (cd_348 rfl) ?_
  have K25 : ∀ lv : jL, lv 0 = some (jR (some 76)) → lv 1 = some (jI x1) → lv 2 = some (jI x2) → lv 3 = some (jI x3) → lv 5 = some (jI x5) → lv 6 = some (jI x6) → ey (mm_xt L xs) 2 348 110 lv [jI (if (jw x3) = 3 then 1 else 3), jI x6] (jhm b m) r := by
    intro lv g0 g1 g2 g3 g5 g6
    by_cases q5 : (jw (if (jw x3) = 3 then 1 else 3)) ≤ (jw x6)
    · rw [if_pos q5] at e
      refine ey_cge (cd_348 rfl) rfl rfl rfl q5 ?_
      cases e
      exact K lv g5
    · rw [if_neg q5] at e
      refine ey_nge (cd_348 rfl) rfl rfl rfl q5 ?_
      refine ey_iconst (cd_348 rfl) ?_
      refine ey_istore (cd_348 rfl) mt_348 rfl ?_
      obtain ⟨x23, e24, e⟩ := jbind e
      refine jk_348_l116 hb h6 e24 ?_ (jup lv 7 (jI 0)) g0 g1 g2 g3 g5 (jup_pi (lv := lv) (j := 6) (v := jI 0) (z := x6) g6) rfl
      intro lv g0 g1 g2 g3 g5 g6
      refine ey_iinc (cd_348 rfl) mt_348 rfl g6 ?_
      refine ey_goto (cd_348 rfl) rfl ?_
      cases e
      exact K (jup lv 6 (jI (x6 + 1))) g0 g1 g2 g3 (jup_pi (lv := lv) (j := 5) (v := jI (x6 + 1)) (z := x23) g5) rfl
  by_cases q26 : (jw x3) = 3
  · refine ey_nne (cd_348 rfl) rfl rfl (show jw 3 = 3 from by decide) (fun w => w q26) ?_
    refine ey_iconst (cd_348 rfl) ?_
    refine ey_goto (cd_348 rfl) rfl ?_
    exact ey_rs (s0 := [jI 1, jI x6]) (s1 := [jI (if (jw x3) = 3 then 1 else 3), jI x6]) (by rw [show ((if (jw x3) = 3 then 1 else 3) : Int) = 1 from (if_pos q26)]) (K25 lv f0 f1 f2 f3 f5 f6)
  · refine ey_cne (cd_348 rfl) rfl rfl (show jw 3 = 3 from by decide) q26 ?_
    refine ey_iconst (cd_348 rfl) ?_
    exact ey_rs (s0 := [jI 3, jI x6]) (s1 := [jI (if (jw x3) = 3 then 1 else 3), jI x6]) (by rw [show ((if (jw x3) = 3 then 1 else 3) : Int) = 3 from (if_neg q26)]) (K25 lv f0 f1 f2 f3 f5 f6)
theorem jk_348_l98 {L : Nat} {xs : Nat → Int32} {b : jH} (hb : 152 ≤ b.1) (h6 : b.1 ≤ 1000000) {x1 : Int} {x2 : Int} {x3 : Int} {x5 : Int} {x6 : Int} {m : jM} {x : Int} {r : mm_R} (e : jd_348_l98 x1 x2 x3 x5 x6 m = some x) (K : (∀ lv : jL, lv 5 = some (jI x) → ey (mm_xt L xs) 2 348 257 lv [] (jhm b m) r)) : ∀ lv : jL, lv 0 = some (jR (some 76)) → lv 1 = some (jI x1) → lv 2 = some (jI x2) → lv 3 = some (jI x3) → lv 5 = some (jI x5) → lv 6 = some (jI x6) → ey (mm_xt L xs) 2 348 98 lv [] (jhm b m) r := by
  unfold jd_348_l98 at e
  exact jlp_ok2 (P := fun s => ∀ lv : jL, lv 0 = some (jR (some 76)) → lv 1 = some (jI x1) → lv 2 = some (jI x2) → lv 3 = some (jI x3) → lv 5 = some (jI s.1) → lv 6 = some (jI s.2) → ey (mm_xt L xs) 2 348 98 lv [] (jhm b m) r) (Q := fun x => (∀ lv : jL, lv 5 = some (jI x) → ey (mm_xt L xs) 2 348 257 lv [] (jhm b m) r)) (fun s q hq hk => jk_348_s98 hb h6 hq hk) jfu _ x e K
set_option maxRecDepth 100000 in
theorem jk_348_b80 {L : Nat} {xs : Nat → Int32} {b : jH} (hb : 152 ≤ b.1) (h6 : b.1 ≤ 1000000) {x1 : Int} {x2 : Int} {x3 : Int} {y0 : Int} {m : jM} {o : (Int × jM)} (e : jd_348_b80 x1 x2 x3 y0 m = some o) : ∀ lv : jL, lv 0 = some (jR (some 76)) → lv 1 = some (jI x1) → lv 2 = some (jI x2) → lv 3 = some (jI x3) → ey (mm_xt L xs) 2 348 80 lv [jI y0, jR (some 76)] (jhm b m) (.inl (some (jcv (jI o.1)), jaH (jhm b o.2))) := by
  intro lv f0 f1 f2 f3
  unfold jd_348_b80 at e
  obtain ⟨m2, e3, e⟩ := jbind e
  refine ey_putf_i (cd_348 rfl) mt_348 rfl rfl rfl (jhm_pi' (k := 0) hb e3) ?_
  refine ey_aload_n (cd_348 rfl) f0 ?_
  refine ey_getf_i (z := (m2 76 0)) (cd_348 rfl) mt_348 rfl rfl rfl (jhm_gi hb 0) ?_
  by_cases q4 : (jw (m2 76 0)) ≤ 0
  · rw [if_pos q4] at e
    refine ey_zle (cd_348 rfl) rfl rfl q4 ?_
    refine ey_iconst (cd_348 rfl) ?_
    refine ey_istore (cd_348 rfl) mt_348 rfl ?_
    refine ey_iconst (cd_348 rfl) ?_
    refine ey_istore (cd_348 rfl) mt_348 rfl ?_
    obtain ⟨x27, e28, e⟩ := jbind e
    refine jk_348_l98 hb h6 e28 ?_ (jup (jup lv 5 (jI 0)) 6 (jI 0)) f0 f1 f2 f3 (jup_pi (lv := (jup lv 5 (jI 0))) (j := 5) (v := jI 0) (z := 0) rfl) rfl
    intro lv g5
    refine ey_iload (cd_348 rfl) g5 ?_
    cases e
    exact ey_reti (cd_348 rfl) mt_348 rfl
  · rw [if_neg q4] at e
    refine ey_yle (cd_348 rfl) rfl rfl q4 ?_
    refine ey_iconst (cd_348 rfl) ?_
    cases e
    exact ey_reti (cd_348 rfl) mt_348 rfl
set_option maxRecDepth 100000 in
theorem jk_348_b21 {L : Nat} {xs : Nat → Int32} {b : jH} (hb : 152 ≤ b.1) (h6 : b.1 ≤ 1000000) {x1 : Int} {x2 : Int} {x3 : Int} {y0 : Int} {m : jM} {o : (Int × jM)} (e : jd_348_b21 x1 x2 x3 y0 m = some o) : ∀ lv : jL, lv 0 = some (jR (some 76)) → lv 1 = some (jI x1) → lv 2 = some (jI x2) → lv 3 = some (jI x3) → ey (mm_xt L xs) 2 348 21 lv [jI y0] (jhm b m) (.inl (some (jcv (jI o.1)), jaH (jhm b o.2))) := by
  intro lv f0 f1 f2 f3
  unfold jd_348_b21 at e
  refine ey_istore (cd_348 rfl) mt_348 rfl ?_
  refine ey_aload_n (cd_348 rfl) f0 ?_
  refine ey_iload (cd_348 rfl) rfl ?_
  by_cases q1 : (jw y0) = 0
  · rw [if_pos q1] at e
    refine ey_yne (cd_348 rfl) rfl rfl (fun w => w q1) ?_
    refine ey_iconst (cd_348 rfl) ?_
    refine ey_goto (cd_348 rfl) rfl ?_
    exact jk_348_b80 hb h6 e (jup lv 4 (jI y0)) f0 f1 f2 (jup_pi (lv := lv) (j := 3) (v := jI y0) (z := x3) f3)
  · rw [if_neg q1] at e
    refine ey_zne (cd_348 rfl) rfl rfl q1 ?_
    refine ey_aload_n (cd_348 rfl) f0 ?_
    refine ey_getf_r (cd_348 rfl) mt_348 rfl rfl rfl (jhm_gr (q := 77) hb rfl) ?_
    refine ey_iload_n (cd_348 rfl) f1 ?_
    obtain ⟨v29, e30, e⟩ := jbind e
    refine ey_iald (cd_348 rfl) (jhm_ai hb h6 (by decide) rfl e30) ?_
    refine ey_aload_n (cd_348 rfl) f0 ?_
    refine ey_getf_r (cd_348 rfl) mt_348 rfl rfl rfl (jhm_gr (q := 77) hb rfl) ?_
    refine ey_iload_n (cd_348 rfl) f2 ?_
    obtain ⟨v31, e32, e⟩ := jbind e
    refine ey_iald (cd_348 rfl) (jhm_ai hb h6 (by decide) rfl e32) ?_
    by_cases q33 : (jw v29) = (jw v31)
    · rw [if_pos q33] at e
      refine ey_nne (cd_348 rfl) rfl rfl rfl (fun w => w q33) ?_
      refine ey_aload_n (cd_348 rfl) f0 ?_
      refine ey_getf_r (cd_348 rfl) mt_348 rfl rfl rfl (jhm_gr (q := 78) hb rfl) ?_
      refine ey_iload_n (cd_348 rfl) f1 ?_
      obtain ⟨v34, e35, e⟩ := jbind e
      refine ey_iald (cd_348 rfl) (jhm_ai hb h6 (by decide) rfl e35) ?_
      refine ey_aload_n (cd_348 rfl) f0 ?_
      refine ey_getf_r (cd_348 rfl) mt_348 rfl rfl rfl (jhm_gr (q := 78) hb rfl) ?_
      refine ey_iload_n (cd_348 rfl) f2 ?_
      obtain ⟨v36, e37, e⟩ := jbind e
      refine ey_iald (cd_348 rfl) (jhm_ai hb h6 (by decide) rfl e37) ?_
      have K38 : ∀ lv : jL, lv 0 = some (jR (some 76)) → lv 1 = some (jI x1) → lv 2 = some (jI x2) → lv 3 = some (jI x3) → ey (mm_xt L xs) 2 348 80 lv [jI (if (jw v34) = (jw v36) then (if (jw (jd_204 (jw x3) 0 3)) = 0 then 2 else 0) else 2), jR (some 76)] (jhm b m) (.inl (some (jcv (jI o.1)), jaH (jhm b o.2))) := by
        intro lv g0 g1 g2 g3
        exact jk_348_b80 hb h6 e lv g0 g1 g2 g3
      by_cases q39 : (jw v34) = (jw v36)
      · refine ey_nne (cd_348 rfl) rfl rfl rfl (fun w => w q39) ?_
        refine ey_iload_n (cd_348 rfl) (jup_pi (lv := lv) (j := 3) (v := jI y0) (z := x3) f3) ?_
        refine ey_i2l (cd_348 rfl) ?_
        refine ey_lconst0 (cd_348 rfl) ?_
        refine ey_ldc2 (z := 3) (cd_348 rfl) mt_348 rfl (by decide) ?_
        refine ey_cs (s0 := [jJ 3, jJ 0, jJ (jw x3), jR (some 76)]) (s1 := [jR (some 76)]) (st' := [jI (jd_204 (jw x3) 0 3), jR (some 76)]) (cd_348 rfl) mt_348 mt_204 rfl (by decide) rfl rfl (jsml_s rfl) rfl (mm_Runs.up (d := 1) (by decide) (ok_204 )) ?_
        by_cases q40 : (jw (jd_204 (jw x3) 0 3)) = 0
        · refine ey_yne (cd_348 rfl) rfl rfl (fun w => w q40) ?_
          refine ey_iconst (cd_348 rfl) ?_
          refine ey_goto (cd_348 rfl) rfl ?_
          exact ey_rs (s0 := [jI 2, jR (some 76)]) (s1 := [jI (if (jw v34) = (jw v36) then (if (jw (jd_204 (jw x3) 0 3)) = 0 then 2 else 0) else 2), jR (some 76)]) (by rw [show ((if (jw v34) = (jw v36) then (if (jw (jd_204 (jw x3) 0 3)) = 0 then 2 else 0) else 2) : Int) = 2 from ((if_pos q39).trans (if_pos q40))]) (K38 (jup lv 4 (jI y0)) f0 f1 f2 (jup_pi (lv := lv) (j := 3) (v := jI y0) (z := x3) f3))
        · refine ey_zne (cd_348 rfl) rfl rfl q40 ?_
          refine ey_iconst (cd_348 rfl) ?_
          exact ey_rs (s0 := [jI 0, jR (some 76)]) (s1 := [jI (if (jw v34) = (jw v36) then (if (jw (jd_204 (jw x3) 0 3)) = 0 then 2 else 0) else 2), jR (some 76)]) (by rw [show ((if (jw v34) = (jw v36) then (if (jw (jd_204 (jw x3) 0 3)) = 0 then 2 else 0) else 2) : Int) = 0 from ((if_pos q39).trans (if_neg q40))]) (K38 (jup lv 4 (jI y0)) f0 f1 f2 (jup_pi (lv := lv) (j := 3) (v := jI y0) (z := x3) f3))
      · refine ey_cne (cd_348 rfl) rfl rfl rfl q39 ?_
        refine ey_iconst (cd_348 rfl) ?_
        refine ey_goto (cd_348 rfl) rfl ?_
        exact ey_rs (s0 := [jI 2, jR (some 76)]) (s1 := [jI (if (jw v34) = (jw v36) then (if (jw (jd_204 (jw x3) 0 3)) = 0 then 2 else 0) else 2), jR (some 76)]) (by rw [show ((if (jw v34) = (jw v36) then (if (jw (jd_204 (jw x3) 0 3)) = 0 then 2 else 0) else 2) : Int) = 2 from (if_neg q39)]) (K38 (jup lv 4 (jI y0)) f0 f1 f2 (jup_pi (lv := lv) (j := 3) (v := jI y0) (z := x3) f3))
    · rw [if_neg q33] at e
      refine ey_cne (cd_348 rfl) rfl rfl rfl q33 ?_
      refine ey_iconst (cd_348 rfl) ?_
      refine ey_goto (cd_348 rfl) rfl ?_
      exact jk_348_b80 hb h6 e (jup lv 4 (jI y0)) f0 f1 f2 (jup_pi (lv := lv) (j := 3) (v := jI y0) (z := x3) f3)
set_option maxRecDepth 100000 in
theorem ok_348 {L : Nat} {xs : Nat → Int32} {b : jH} (hb : 152 ≤ b.1) (h6 : b.1 ≤ 1000000) {p0 : Int} {p1 : Int} {p2 : Int} {m : jM} {o : (Int × jM)} (e : jd_348 p0 p1 p2 m = some o) : mm_Runs (mm_xt L xs) 3 348 ([jR (some 76), jI p0, jI p1, jI p2].map jcv) (jaH (jhm b m)) (.inl (some (jcv (jI o.1)), jaH (jhm b o.2))) := by
  refine ey_run0 _ mt_348 (jsl_s rfl) ?_
  unfold jd_348 at e
  refine ey_aload_n (cd_348 rfl) rfl ?_
  refine ey_iload_n (cd_348 rfl) rfl ?_
  refine ey_cv (s0 := [jI p0, jR (some 76)]) (s1 := []) (st' := [jI (jd_210 p0 m)]) (cd_348 rfl) mt_348 mt_210 rfl rfl rfl (jhm_is hb) rfl (jsml_s rfl) rfl (ok_210 hb h6 ) ?_
  have K41 : ∀ lv : jL, lv 0 = some (jR (some 76)) → lv 1 = some (jI p0) → lv 2 = some (jI p1) → lv 3 = some (jI p2) → ey (mm_xt L xs) 2 348 21 lv [jI (if (jw (jd_210 p0 m)) = 0 then 0 else (if (jw (jd_210 p1 m)) = 0 then 0 else 1))] (jhm b m) (.inl (some (jcv (jI o.1)), jaH (jhm b o.2))) := by
    intro lv g0 g1 g2 g3
    exact jk_348_b21 hb h6 e lv g0 g1 g2 g3
  by_cases q42 : (jw (jd_210 p0 m)) = 0
  · refine ey_zeq (cd_348 rfl) rfl rfl q42 ?_
    refine ey_iconst (cd_348 rfl) ?_
    exact ey_rs (s0 := [jI 0]) (s1 := [jI (if (jw (jd_210 p0 m)) = 0 then 0 else (if (jw (jd_210 p1 m)) = 0 then 0 else 1))]) (by rw [show ((if (jw (jd_210 p0 m)) = 0 then 0 else (if (jw (jd_210 p1 m)) = 0 then 0 else 1)) : Int) = 0 from (if_pos q42)]) (K41 (jlf (jla 0 [jR (some 76), jI p0, jI p1, jI p2])) rfl rfl rfl rfl)
  · refine ey_yeq (cd_348 rfl) rfl rfl q42 ?_
    refine ey_aload_n (cd_348 rfl) rfl ?_
    refine ey_iload_n (cd_348 rfl) rfl ?_
    refine ey_cv (s0 := [jI p1, jR (some 76)]) (s1 := []) (st' := [jI (jd_210 p1 m)]) (cd_348 rfl) mt_348 mt_210 rfl rfl rfl (jhm_is hb) rfl (jsml_s rfl) rfl (ok_210 hb h6 ) ?_
    by_cases q43 : (jw (jd_210 p1 m)) = 0
    · refine ey_zeq (cd_348 rfl) rfl rfl q43 ?_
      refine ey_iconst (cd_348 rfl) ?_
      exact ey_rs (s0 := [jI 0]) (s1 := [jI (if (jw (jd_210 p0 m)) = 0 then 0 else (if (jw (jd_210 p1 m)) = 0 then 0 else 1))]) (by rw [show ((if (jw (jd_210 p0 m)) = 0 then 0 else (if (jw (jd_210 p1 m)) = 0 then 0 else 1)) : Int) = 0 from ((if_neg q42).trans (if_pos q43))]) (K41 (jlf (jla 0 [jR (some 76), jI p0, jI p1, jI p2])) rfl rfl rfl rfl)
    · refine ey_yeq (cd_348 rfl) rfl rfl q43 ?_
      refine ey_iconst (cd_348 rfl) ?_
      refine ey_goto (cd_348 rfl) rfl ?_
      exact ey_rs (s0 := [jI 1]) (s1 := [jI (if (jw (jd_210 p0 m)) = 0 then 0 else (if (jw (jd_210 p1 m)) = 0 then 0 else 1))]) (by rw [show ((if (jw (jd_210 p0 m)) = 0 then 0 else (if (jw (jd_210 p1 m)) = 0 then 0 else 1)) : Int) = 1 from ((if_neg q42).trans (if_neg q43))]) (K41 (jlf (jla 0 [jR (some 76), jI p0, jI p1, jI p2])) rfl rfl rfl rfl)
theorem cd_349 {pc : Nat} {i : Instr × Nat} (h : mm_lk mm_c349 pc = some i) : mm_cd 349 pc = some i := h
theorem mt_349 : mm_MT 349 = (12, 6, some .int, 3, 0, []) := rfl
set_option maxRecDepth 100000 in
theorem jk_349_s6 {L : Nat} {xs : Nat → Int32} {b : jH} (hb : 152 ≤ b.1) (h6 : b.1 ≤ 1000000) {x1 : Int} {x2 : Int} {x3 : Int} {x4 : Int} {x5 : Int} {m : jM} {o : ((Int × Int) ⊕ Int)} {r : mm_R} (e : jd_349_s6 x1 x2 x3 x4 x5 m = some o) (K : jsm (fun s => (∀ lv : jL, lv 0 = some (jR (some 76)) → lv 1 = some (jI x1) → lv 2 = some (jI x2) → lv 3 = some (jI x3) → lv 4 = some (jI s.1) → lv 5 = some (jI s.2) → ey (mm_xt L xs) 0 349 6 lv [] (jhm b m) r)) (fun x => (∀ lv : jL, lv 4 = some (jI x) → ey (mm_xt L xs) 0 349 44 lv [] (jhm b m) r)) o) : ∀ lv : jL, lv 0 = some (jR (some 76)) → lv 1 = some (jI x1) → lv 2 = some (jI x2) → lv 3 = some (jI x3) → lv 4 = some (jI x4) → lv 5 = some (jI x5) → ey (mm_xt L xs) 0 349 6 lv [] (jhm b m) r := by
  intro lv f0 f1 f2 f3 f4 f5
  unfold jd_349_s6 at e
  refine ey_iload (cd_349 rfl) f5 ?_
  refine ey_iload_n (cd_349 rfl) f2 ?_
  by_cases q1 : (jw x2) ≤ (jw x5)
  · rw [if_pos q1] at e
    refine ey_cge (cd_349 rfl) rfl rfl rfl q1 ?_
    cases e
    exact K lv f4
  · rw [if_neg q1] at e
    refine ey_nge (cd_349 rfl) rfl rfl rfl q1 ?_
    refine ey_iload (cd_349 rfl) f4 ?_
    refine ey_aload_n (cd_349 rfl) f0 ?_
    refine ey_getf_r (cd_349 rfl) mt_349 rfl rfl rfl (jhm_gr (q := 99) hb rfl) ?_
    refine ey_iload_n (cd_349 rfl) f1 ?_
    refine ey_iload (cd_349 rfl) f5 ?_
    refine ey_iadd (cd_349 rfl) ?_
    obtain ⟨v2, e3, e⟩ := jbind e
    refine ey_iald (cd_349 rfl) (jhm_ai hb h6 (by decide) rfl e3) ?_
    refine ey_bipush (cd_349 rfl) (by decide) ?_
    refine ey_idiv (cd_349 rfl) (by decide) ?_
    refine ey_iload_n (cd_349 rfl) f3 ?_
    have K6 : ∀ lv : jL, lv 0 = some (jR (some 76)) → lv 1 = some (jI x1) → lv 2 = some (jI x2) → lv 3 = some (jI x3) → lv 5 = some (jI x5) → ey (mm_xt L xs) 0 349 35 lv [jI (if (jw (jdiv v2 16)) = (jw x3) then 1 else 0), jI x4] (jhm b m) r := by
      intro lv g0 g1 g2 g3 g5
      refine ey_iadd (cd_349 rfl) ?_
      obtain ⟨z4, e5, e⟩ := jbind e
      refine ey_rs (s0 := [jI (x4 + (if (jw (jdiv v2 16)) = (jw x3) then 1 else 0))]) (s1 := [jI z4]) (by rw [show (x4 + (if (jw (jdiv v2 16)) = (jw x3) then 1 else 0)) = z4 from Option.some.inj e5]) ?_
      refine ey_istore (cd_349 rfl) mt_349 rfl ?_
      refine ey_iinc (cd_349 rfl) mt_349 rfl g5 ?_
      refine ey_goto (cd_349 rfl) rfl ?_
      cases e
      exact K (jup (jup lv 4 (jI z4)) 5 (jI (x5 + 1))) g0 g1 g2 (jup_o rfl (jup_pi (lv := lv) (j := 3) (v := jI z4) (z := x3) g3)) (jup_pi (lv := (jup lv 4 (jI z4))) (j := 4) (v := jI (x5 + 1)) (z := z4) rfl) rfl
    by_cases q7 : (jw (jdiv v2 16)) = (jw x3)
    · refine ey_nne (cd_349 rfl) rfl rfl rfl (fun w => w q7) ?_
      refine ey_iconst (cd_349 rfl) ?_
      refine ey_goto (cd_349 rfl) rfl ?_
      exact ey_rs (s0 := [jI 1, jI x4]) (s1 := [jI (if (jw (jdiv v2 16)) = (jw x3) then 1 else 0), jI x4]) (by rw [show ((if (jw (jdiv v2 16)) = (jw x3) then 1 else 0) : Int) = 1 from (if_pos q7)]) (K6 lv f0 f1 f2 f3 f5)
    · refine ey_cne (cd_349 rfl) rfl rfl rfl q7 ?_
      refine ey_iconst (cd_349 rfl) ?_
      exact ey_rs (s0 := [jI 0, jI x4]) (s1 := [jI (if (jw (jdiv v2 16)) = (jw x3) then 1 else 0), jI x4]) (by rw [show ((if (jw (jdiv v2 16)) = (jw x3) then 1 else 0) : Int) = 0 from (if_neg q7)]) (K6 lv f0 f1 f2 f3 f5)
theorem jk_349_l6 {L : Nat} {xs : Nat → Int32} {b : jH} (hb : 152 ≤ b.1) (h6 : b.1 ≤ 1000000) {x1 : Int} {x2 : Int} {x3 : Int} {x4 : Int} {x5 : Int} {m : jM} {x : Int} {r : mm_R} (e : jd_349_l6 x1 x2 x3 x4 x5 m = some x) (K : (∀ lv : jL, lv 4 = some (jI x) → ey (mm_xt L xs) 0 349 44 lv [] (jhm b m) r)) : ∀ lv : jL, lv 0 = some (jR (some 76)) → lv 1 = some (jI x1) → lv 2 = some (jI x2) → lv 3 = some (jI x3) → lv 4 = some (jI x4) → lv 5 = some (jI x5) → ey (mm_xt L xs) 0 349 6 lv [] (jhm b m) r := by
  unfold jd_349_l6 at e
  exact jlp_ok2 (P := fun s => ∀ lv : jL, lv 0 = some (jR (some 76)) → lv 1 = some (jI x1) → lv 2 = some (jI x2) → lv 3 = some (jI x3) → lv 4 = some (jI s.1) → lv 5 = some (jI s.2) → ey (mm_xt L xs) 0 349 6 lv [] (jhm b m) r) (Q := fun x => (∀ lv : jL, lv 4 = some (jI x) → ey (mm_xt L xs) 0 349 44 lv [] (jhm b m) r)) (fun s q hq hk => jk_349_s6 hb h6 hq hk) jfu _ x e K
set_option maxRecDepth 100000 in
theorem ok_349 {L : Nat} {xs : Nat → Int32} {b : jH} (hb : 152 ≤ b.1) (h6 : b.1 ≤ 1000000) {p0 : Int} {p1 : Int} {p2 : Int} {m : jM} {o : Int} (e : jd_349 p0 p1 p2 m = some o) : mm_Runs (mm_xt L xs) 1 349 ([jR (some 76), jI p0, jI p1, jI p2].map jcv) (jaH (jhm b m)) (.inl (some (jcv (jI o)), jaH (jhm b m))) := by
  refine ey_run0 _ mt_349 (jsl_s rfl) ?_
  unfold jd_349 at e
  refine ey_iconst (cd_349 rfl) ?_
  refine ey_istore (cd_349 rfl) mt_349 rfl ?_
  refine ey_iconst (cd_349 rfl) ?_
  refine ey_istore (cd_349 rfl) mt_349 rfl ?_
  obtain ⟨x8, e9, e⟩ := jbind e
  refine jk_349_l6 hb h6 e9 ?_ (jup (jup (jlf (jla 0 [jR (some 76), jI p0, jI p1, jI p2])) 4 (jI 0)) 5 (jI 0)) rfl rfl rfl (jup_o rfl (jup_pi (lv := (jlf (jla 0 [jR (some 76), jI p0, jI p1, jI p2]))) (j := 3) (v := jI 0) (z := p2) rfl)) (jup_pi (lv := (jup (jlf (jla 0 [jR (some 76), jI p0, jI p1, jI p2])) 4 (jI 0))) (j := 4) (v := jI 0) (z := 0) rfl) rfl
  intro lv g4
  refine ey_iload (cd_349 rfl) g4 ?_
  cases e
  exact ey_reti (cd_349 rfl) mt_349 rfl
theorem cd_350 {pc : Nat} {i : Instr × Nat} (h : mm_lk mm_c350 pc = some i) : mm_cd 350 pc = some i := h
theorem mt_350 : mm_MT 350 = (12, 7, some .boolean, 2, 0, []) := rfl
set_option maxRecDepth 100000 in
theorem jk_350_b114 {L : Nat} {xs : Nat → Int32} {b : jH} (hb : 152 ≤ b.1) (h6 : b.1 ≤ 1000000) {x1 : Int} {x2 : Int} {x3 : Int} {x5 : Int} {y0 : Int} {y1 : Int} {m : jM} {o : ((Int × Int) ⊕ Int)} {r : mm_R} (e : jd_350_b114 x1 x2 x3 x5 y0 y1 m = some o) (K : jsm (fun s => (∀ lv : jL, lv 0 = some (jR (some 76)) → lv 1 = some (jI x1) → lv 2 = some (jI x2) → lv 3 = some (jI x3) → lv 4 = some (jI s.1) → lv 5 = some (jI s.2) → ey (mm_xt L xs) 3 350 53 lv [] (jhm b m) r)) (fun x => (∀ lv : jL, lv 3 = some (jI x3) → lv 4 = some (jI x) → ey (mm_xt L xs) 3 350 123 lv [] (jhm b m) r)) o) : ∀ lv : jL, lv 0 = some (jR (some 76)) → lv 1 = some (jI x1) → lv 2 = some (jI x2) → lv 3 = some (jI x3) → lv 5 = some (jI x5) → ey (mm_xt L xs) 3 350 114 lv [jI y0, jI y1] (jhm b m) r := by
  intro lv f0 f1 f2 f3 f5
  unfold jd_350_b114 at e
  refine ey_iadd (cd_350 rfl) ?_
  refine ey_istore (cd_350 rfl) mt_350 rfl ?_
  refine ey_iinc (cd_350 rfl) mt_350 rfl f5 ?_
  refine ey_goto (cd_350 rfl) rfl ?_
  cases e
  exact K (jup (jup lv 4 (jI (y1 + y0))) 5 (jI (x5 + 1))) f0 f1 f2 (jup_o rfl (jup_pi (lv := lv) (j := 3) (v := jI (y1 + y0)) (z := x3) f3)) (jup_pi (lv := (jup lv 4 (jI (y1 + y0)))) (j := 4) (v := jI (x5 + 1)) (z := (y1 + y0)) rfl) rfl
set_option maxRecDepth 100000 in
theorem jk_350_s53 {L : Nat} {xs : Nat → Int32} {b : jH} (hb : 152 ≤ b.1) (h6 : b.1 ≤ 1000000) {x1 : Int} {x2 : Int} {x3 : Int} {x4 : Int} {x5 : Int} {m : jM} {o : ((Int × Int) ⊕ Int)} {r : mm_R} (e : jd_350_s53 x1 x2 x3 x4 x5 m = some o) (K : jsm (fun s => (∀ lv : jL, lv 0 = some (jR (some 76)) → lv 1 = some (jI x1) → lv 2 = some (jI x2) → lv 3 = some (jI x3) → lv 4 = some (jI s.1) → lv 5 = some (jI s.2) → ey (mm_xt L xs) 3 350 53 lv [] (jhm b m) r)) (fun x => (∀ lv : jL, lv 3 = some (jI x3) → lv 4 = some (jI x) → ey (mm_xt L xs) 3 350 123 lv [] (jhm b m) r)) o) : ∀ lv : jL, lv 0 = some (jR (some 76)) → lv 1 = some (jI x1) → lv 2 = some (jI x2) → lv 3 = some (jI x3) → lv 4 = some (jI x4) → lv 5 = some (jI x5) → ey (mm_xt L xs) 3 350 53 lv [] (jhm b m) r := by
  intro lv f0 f1 f2 f3 f4 f5
  unfold jd_350_s53 at e
  refine ey_iload (cd_350 rfl) f5 ?_
  refine ey_bipush (cd_350 rfl) (by decide) ?_
  by_cases q11 : 16 ≤ (jw x5)
  · rw [if_pos q11] at e
    refine ey_cge (cd_350 rfl) rfl rfl (show jw 16 = 16 from by decide) q11 ?_
    cases e
    exact K lv f3 f4
  · rw [if_neg q11] at e
    refine ey_nge (cd_350 rfl) rfl rfl (show jw 16 = 16 from by decide) q11 ?_
    refine ey_aload_n (cd_350 rfl) f0 ?_
    refine ey_sipush (cd_350 rfl) (by decide) ?_
    refine ey_aload_n (cd_350 rfl) f0 ?_
    refine ey_iload_n (cd_350 rfl) f1 ?_
    refine ey_iload_n (cd_350 rfl) f2 ?_
    obtain ⟨v12, e13, e⟩ := jbind e
    refine ey_cv (s0 := [jI x2, jI x1, jR (some 76), jI 864, jR (some 76)]) (s1 := [jI 864, jR (some 76)]) (st' := [jI v12, jI 864, jR (some 76)]) (cd_350 rfl) mt_350 mt_318 rfl rfl rfl (jhm_is hb) rfl (jsml_s rfl) rfl (mm_Runs.up (d := 1) (by decide) (ok_318 hb h6 e13)) ?_
    refine ey_imul (cd_350 rfl) ?_
    refine ey_iload_n (cd_350 rfl) f3 ?_
    refine ey_iload (cd_350 rfl) f5 ?_
    obtain ⟨v14, e15, e⟩ := jbind e
    refine ey_cv (s0 := [jI x5, jI x3, jI (864 * v12), jR (some 76)]) (s1 := []) (st' := [jI v14]) (cd_350 rfl) mt_350 mt_349 rfl rfl rfl (jhm_is hb) rfl (jsml_s rfl) rfl (mm_Runs.up (d := 1) (by decide) (ok_349 hb h6 e15)) ?_
    refine ey_aload_n (cd_350 rfl) f0 ?_
    refine ey_sipush (cd_350 rfl) (by decide) ?_
    refine ey_aload_n (cd_350 rfl) f0 ?_
    refine ey_iload_n (cd_350 rfl) f1 ?_
    refine ey_iload_n (cd_350 rfl) f2 ?_
    refine ey_iconst (cd_350 rfl) ?_
    refine ey_isub (cd_350 rfl) ?_
    obtain ⟨v16, e17, e⟩ := jbind e
    refine ey_cv (s0 := [jI (x2 - 1), jI x1, jR (some 76), jI 864, jR (some 76), jI v14]) (s1 := [jI 864, jR (some 76), jI v14]) (st' := [jI v16, jI 864, jR (some 76), jI v14]) (cd_350 rfl) mt_350 mt_318 rfl rfl rfl (jhm_is hb) rfl (jsml_s rfl) rfl (mm_Runs.up (d := 1) (by decide) (ok_318 hb h6 e17)) ?_
    refine ey_imul (cd_350 rfl) ?_
    refine ey_iload_n (cd_350 rfl) f3 ?_
    refine ey_iload (cd_350 rfl) f5 ?_
    obtain ⟨v18, e19, e⟩ := jbind e
    refine ey_cv (s0 := [jI x5, jI x3, jI (864 * v16), jR (some 76), jI v14]) (s1 := [jI v14]) (st' := [jI v18, jI v14]) (cd_350 rfl) mt_350 mt_349 rfl rfl rfl (jhm_is hb) rfl (jsml_s rfl) rfl (mm_Runs.up (d := 1) (by decide) (ok_349 hb h6 e19)) ?_
    refine ey_isub (cd_350 rfl) ?_
    refine ey_istore (cd_350 rfl) mt_350 rfl ?_
    refine ey_iload (cd_350 rfl) f4 ?_
    refine ey_iload (cd_350 rfl) rfl ?_
    have K20 : ∀ lv : jL, lv 0 = some (jR (some 76)) → lv 1 = some (jI x1) → lv 2 = some (jI x2) → lv 3 = some (jI x3) → lv 5 = some (jI x5) → ey (mm_xt L xs) 3 350 114 lv [jI (if 0 ≤ (jw (v14 - v18)) then (v14 - v18) else (-(v14 - v18))), jI x4] (jhm b m) r := by
      intro lv g0 g1 g2 g3 g5
      exact jk_350_b114 hb h6 e K lv g0 g1 g2 g3 g5
    by_cases q21 : 0 ≤ (jw (v14 - v18))
    · refine ey_zge (cd_350 rfl) rfl rfl q21 ?_
      refine ey_iload (cd_350 rfl) rfl ?_
      exact ey_rs (s0 := [jI (v14 - v18), jI x4]) (s1 := [jI (if 0 ≤ (jw (v14 - v18)) then (v14 - v18) else (-(v14 - v18))), jI x4]) (by rw [show ((if 0 ≤ (jw (v14 - v18)) then (v14 - v18) else (-(v14 - v18))) : Int) = (v14 - v18) from (if_pos q21)]) (K20 (jup lv 6 (jI (v14 - v18))) f0 f1 f2 f3 (jup_pi (lv := lv) (j := 5) (v := jI (v14 - v18)) (z := x5) f5))
    · refine ey_yge (cd_350 rfl) rfl rfl q21 ?_
      refine ey_iload (cd_350 rfl) rfl ?_
      refine ey_ineg (cd_350 rfl) ?_
      refine ey_goto (cd_350 rfl) rfl ?_
      exact ey_rs (s0 := [jI (-(v14 - v18)), jI x4]) (s1 := [jI (if 0 ≤ (jw (v14 - v18)) then (v14 - v18) else (-(v14 - v18))), jI x4]) (by rw [show ((if 0 ≤ (jw (v14 - v18)) then (v14 - v18) else (-(v14 - v18))) : Int) = (-(v14 - v18)) from (if_neg q21)]) (K20 (jup lv 6 (jI (v14 - v18))) f0 f1 f2 f3 (jup_pi (lv := lv) (j := 5) (v := jI (v14 - v18)) (z := x5) f5))
theorem jk_350_l53 {L : Nat} {xs : Nat → Int32} {b : jH} (hb : 152 ≤ b.1) (h6 : b.1 ≤ 1000000) {x1 : Int} {x2 : Int} {x3 : Int} {x4 : Int} {x5 : Int} {m : jM} {x : Int} {r : mm_R} (e : jd_350_l53 x1 x2 x3 x4 x5 m = some x) (K : (∀ lv : jL, lv 3 = some (jI x3) → lv 4 = some (jI x) → ey (mm_xt L xs) 3 350 123 lv [] (jhm b m) r)) : ∀ lv : jL, lv 0 = some (jR (some 76)) → lv 1 = some (jI x1) → lv 2 = some (jI x2) → lv 3 = some (jI x3) → lv 4 = some (jI x4) → lv 5 = some (jI x5) → ey (mm_xt L xs) 3 350 53 lv [] (jhm b m) r := by
  unfold jd_350_l53 at e
  exact jlp_ok2 (P := fun s => ∀ lv : jL, lv 0 = some (jR (some 76)) → lv 1 = some (jI x1) → lv 2 = some (jI x2) → lv 3 = some (jI x3) → lv 4 = some (jI s.1) → lv 5 = some (jI s.2) → ey (mm_xt L xs) 3 350 53 lv [] (jhm b m) r) (Q := fun x => (∀ lv : jL, lv 3 = some (jI x3) → lv 4 = some (jI x) → ey (mm_xt L xs) 3 350 123 lv [] (jhm b m) r)) (fun s q hq hk => jk_350_s53 hb h6 hq hk) jfu _ x e K
set_option maxRecDepth 100000 in
theorem ok_350 {L : Nat} {xs : Nat → Int32} {b : jH} (hb : 152 ≤ b.1) (h6 : b.1 ≤ 1000000) {p0 : Int} {p1 : Int} {m : jM} {o : (Int × jM)} (e : jd_350 p0 p1 m = some o) : mm_Runs (mm_xt L xs) 4 350 ([jR (some 76), jI p0, jI p1].map jcv) (jaH (jhm b m)) (.inl (some (jcv (jI o.1)), jaH (jhm b o.2))) := by
  refine ey_run0 _ mt_350 (jsl_s rfl) ?_
  unfold jd_350 at e
  refine ey_aload_n (cd_350 rfl) rfl ?_
  refine ey_aload_n (cd_350 rfl) rfl ?_
  refine ey_iload_n (cd_350 rfl) rfl ?_
  refine ey_iload_n (cd_350 rfl) rfl ?_
  obtain ⟨v1, e2, e⟩ := jbind e
  refine ey_cv (s0 := [jI p1, jI p0, jR (some 76), jR (some 76)]) (s1 := [jR (some 76)]) (st' := [jI v1, jR (some 76)]) (cd_350 rfl) mt_350 mt_314 rfl rfl rfl (jhm_is hb) rfl (jsml_s rfl) rfl (ok_314 hb h6 e2) ?_
  have K26 : ∀ lv : jL, lv 0 = some (jR (some 76)) → lv 1 = some (jI p0) → lv 2 = some (jI p1) → ey (mm_xt L xs) 3 350 15 lv [jI (if (jw v1) = 0 then 1 else 0), jR (some 76)] (jhm b m) (.inl (some (jcv (jI o.1)), jaH (jhm b o.2))) := by
    intro lv g0 g1 g2
    obtain ⟨m3, e4, e⟩ := jbind e
    refine ey_putf_i (cd_350 rfl) mt_350 rfl rfl rfl (jhm_pi' (k := 0) hb e4) ?_
    refine ey_aload_n (cd_350 rfl) g0 ?_
    refine ey_getf_i (z := (m3 76 0)) (cd_350 rfl) mt_350 rfl rfl rfl (jhm_gi hb 0) ?_
    by_cases q5 : (jw (m3 76 0)) ≤ 0
    · rw [if_pos q5] at e
      refine ey_zle (cd_350 rfl) rfl rfl q5 ?_
      refine ey_iload_n (cd_350 rfl) g2 ?_
      by_cases q6 : (jw p1) = 0
      · rw [if_pos q6] at e
        refine ey_yne (cd_350 rfl) rfl rfl (fun w => w q6) ?_
        refine ey_iconst (cd_350 rfl) ?_
        cases e
        exact ey_retz (cd_350 rfl) mt_350 rfl (Or.inr rfl)
      · rw [if_neg q6] at e
        refine ey_zne (cd_350 rfl) rfl rfl q6 ?_
        refine ey_aload_n (cd_350 rfl) g0 ?_
        refine ey_getf_r (cd_350 rfl) mt_350 rfl rfl rfl (jhm_gr (q := 84) hb rfl) ?_
        refine ey_iload_n (cd_350 rfl) g1 ?_
        obtain ⟨v7, e8, e⟩ := jbind e
        refine ey_iald (cd_350 rfl) (jhm_ai hb h6 (by decide) rfl e8) ?_
        refine ey_aload_n (cd_350 rfl) g0 ?_
        refine ey_getf_r (cd_350 rfl) mt_350 rfl rfl rfl (jhm_gr (q := 85) hb rfl) ?_
        refine ey_iload_n (cd_350 rfl) g1 ?_
        obtain ⟨v9, e10, e⟩ := jbind e
        refine ey_iald (cd_350 rfl) (jhm_ai hb h6 (by decide) rfl e10) ?_
        refine ey_imul (cd_350 rfl) ?_
        refine ey_istore_n (cd_350 rfl) mt_350 rfl ?_
        refine ey_iconst (cd_350 rfl) ?_
        refine ey_istore (cd_350 rfl) mt_350 rfl ?_
        refine ey_iconst (cd_350 rfl) ?_
        refine ey_istore (cd_350 rfl) mt_350 rfl ?_
        obtain ⟨x22, e23, e⟩ := jbind e
        refine jk_350_l53 hb h6 e23 ?_ (jup (jup (jup lv 3 (jI (v7 * v9))) 4 (jI 0)) 5 (jI 0)) g0 g1 (jup_o rfl (jup_o rfl (jup_pi (lv := lv) (j := 2) (v := jI (v7 * v9)) (z := p1) g2))) (jup_o rfl (jup_pi (lv := (jup lv 3 (jI (v7 * v9)))) (j := 3) (v := jI 0) (z := (v7 * v9)) rfl)) (jup_pi (lv := (jup (jup lv 3 (jI (v7 * v9))) 4 (jI 0))) (j := 4) (v := jI 0) (z := 0) rfl) rfl
        intro lv g3 g4
        refine ey_iload (cd_350 rfl) g4 ?_
        refine ey_iload_n (cd_350 rfl) g3 ?_
        have K24 : ∀ lv : jL, ey (mm_xt L xs) 3 350 134 lv [jI (if (jw x22) ≤ (jw (v7 * v9)) then 0 else 1)] (jhm b m3) (.inl (some (jcv (jI o.1)), jaH (jhm b o.2))) := by
          intro lv 
          cases e
          exact ey_retz (cd_350 rfl) mt_350 rfl (jbo_ite (Or.inl rfl) (Or.inr rfl))
        by_cases q25 : (jw x22) ≤ (jw (v7 * v9))
        · refine ey_cle (cd_350 rfl) rfl rfl rfl q25 ?_
          refine ey_iconst (cd_350 rfl) ?_
          exact ey_rs (s0 := [jI 0]) (s1 := [jI (if (jw x22) ≤ (jw (v7 * v9)) then 0 else 1)]) (by rw [show ((if (jw x22) ≤ (jw (v7 * v9)) then 0 else 1) : Int) = 0 from (if_pos q25)]) (K24 lv )
        · refine ey_nle (cd_350 rfl) rfl rfl rfl q25 ?_
          refine ey_iconst (cd_350 rfl) ?_
          refine ey_goto (cd_350 rfl) rfl ?_
          exact ey_rs (s0 := [jI 1]) (s1 := [jI (if (jw x22) ≤ (jw (v7 * v9)) then 0 else 1)]) (by rw [show ((if (jw x22) ≤ (jw (v7 * v9)) then 0 else 1) : Int) = 1 from (if_neg q25)]) (K24 lv )
    · rw [if_neg q5] at e
      refine ey_yle (cd_350 rfl) rfl rfl q5 ?_
      refine ey_iconst (cd_350 rfl) ?_
      cases e
      exact ey_retz (cd_350 rfl) mt_350 rfl (Or.inl rfl)
  by_cases q27 : (jw v1) = 0
  · refine ey_zeq (cd_350 rfl) rfl rfl q27 ?_
    refine ey_iconst (cd_350 rfl) ?_
    exact ey_rs (s0 := [jI 1, jR (some 76)]) (s1 := [jI (if (jw v1) = 0 then 1 else 0), jR (some 76)]) (by rw [show ((if (jw v1) = 0 then 1 else 0) : Int) = 1 from (if_pos q27)]) (K26 (jlf (jla 0 [jR (some 76), jI p0, jI p1])) rfl rfl rfl)
  · refine ey_yeq (cd_350 rfl) rfl rfl q27 ?_
    refine ey_iconst (cd_350 rfl) ?_
    refine ey_goto (cd_350 rfl) rfl ?_
    exact ey_rs (s0 := [jI 0, jR (some 76)]) (s1 := [jI (if (jw v1) = 0 then 1 else 0), jR (some 76)]) (by rw [show ((if (jw v1) = 0 then 1 else 0) : Int) = 0 from (if_neg q27)]) (K26 (jlf (jla 0 [jR (some 76), jI p0, jI p1])) rfl rfl rfl)
theorem cd_351 {pc : Nat} {i : Instr × Nat} (h : mm_lk mm_c351 pc = some i) : mm_cd 351 pc = some i := h
theorem mt_351 : mm_MT 351 = (12, 8, some .boolean, 3, 0, []) := rfl
set_option maxRecDepth 100000 in
theorem jk_351_s40 {L : Nat} {xs : Nat → Int32} {b : jH} (hb : 152 ≤ b.1) (h6 : b.1 ≤ 1000000) {x1 : Int} {x2 : Int} {x3 : Int} {x5 : Int} {x6 : Int} {x4 : Int} {x7 : Int} {m : jM} {o : ((Int × Int) ⊕ Int)} {r : mm_R} (e : jd_351_s40 x1 x2 x3 x5 x6 x4 x7 m = some o) (K : jsm (fun s => (∀ lv : jL, lv 0 = some (jR (some 76)) → lv 1 = some (jI x1) → lv 2 = some (jI x2) → lv 3 = some (jI x3) → lv 4 = some (jI s.1) → lv 5 = some (jI x5) → lv 6 = some (jI x6) → lv 7 = some (jI s.2) → ey (mm_xt L xs) 1 351 40 lv [] (jhm b m) r)) (fun x => (∀ lv : jL, lv 0 = some (jR (some 76)) → lv 1 = some (jI x1) → lv 2 = some (jI x2) → lv 3 = some (jI x3) → lv 4 = some (jI x) → lv 5 = some (jI x5) → ey (mm_xt L xs) 1 351 116 lv [] (jhm b m) r)) o) : ∀ lv : jL, lv 0 = some (jR (some 76)) → lv 1 = some (jI x1) → lv 2 = some (jI x2) → lv 3 = some (jI x3) → lv 4 = some (jI x4) → lv 5 = some (jI x5) → lv 6 = some (jI x6) → lv 7 = some (jI x7) → ey (mm_xt L xs) 1 351 40 lv [] (jhm b m) r := by
  intro lv f0 f1 f2 f3 f4 f5 f6 f7
  unfold jd_351_s40 at e
  refine ey_iload (cd_351 rfl) f7 ?_
  refine ey_iload (cd_351 rfl) f6 ?_
  by_cases q8 : (jw x6) ≤ (jw x7)
  · rw [if_pos q8] at e
    refine ey_cge (cd_351 rfl) rfl rfl rfl q8 ?_
    cases e
    exact K lv f0 f1 f2 f3 f4 f5
  · rw [if_neg q8] at e
    refine ey_nge (cd_351 rfl) rfl rfl rfl q8 ?_
    refine ey_iload (cd_351 rfl) f4 ?_
    by_cases q9 : (jw x4) = 0
    · rw [if_pos q9] at e
      refine ey_zeq (cd_351 rfl) rfl rfl q9 ?_
      cases e
      exact K lv f0 f1 f2 f3 f4 f5
    · rw [if_neg q9] at e
      refine ey_yeq (cd_351 rfl) rfl rfl q9 ?_
      refine ey_aload_n (cd_351 rfl) f0 ?_
      refine ey_getf_r (cd_351 rfl) mt_351 rfl rfl rfl (jhm_gr (q := 99) hb rfl) ?_
      refine ey_sipush (cd_351 rfl) (by decide) ?_
      refine ey_aload_n (cd_351 rfl) f0 ?_
      refine ey_iload_n (cd_351 rfl) f1 ?_
      refine ey_iload_n (cd_351 rfl) f2 ?_
      obtain ⟨v10, e11, e⟩ := jbind e
      refine ey_cv (s0 := [jI x2, jI x1, jR (some 76), jI 864, jR (some 99)]) (s1 := [jI 864, jR (some 99)]) (st' := [jI v10, jI 864, jR (some 99)]) (cd_351 rfl) mt_351 mt_318 rfl rfl rfl (jhm_is hb) rfl (jsml_s rfl) rfl (ok_318 hb h6 e11) ?_
      refine ey_imul (cd_351 rfl) ?_
      refine ey_iload (cd_351 rfl) f5 ?_
      refine ey_cs (s0 := [jI x5, jI (864 * v10), jR (some 99)]) (s1 := [jI (864 * v10), jR (some 99)]) (st' := [jI (jd_207 x5), jI (864 * v10), jR (some 99)]) (cd_351 rfl) mt_351 mt_207 rfl (by decide) rfl rfl (jsml_s rfl) rfl (ok_207 ) ?_
      refine ey_iadd (cd_351 rfl) ?_
      refine ey_iload (cd_351 rfl) f7 ?_
      refine ey_iadd (cd_351 rfl) ?_
      obtain ⟨v12, e13, e⟩ := jbind e
      refine ey_iald (cd_351 rfl) (jhm_ai hb h6 (by decide) rfl e13) ?_
      refine ey_aload_n (cd_351 rfl) f0 ?_
      refine ey_getf_r (cd_351 rfl) mt_351 rfl rfl rfl (jhm_gr (q := 99) hb rfl) ?_
      refine ey_sipush (cd_351 rfl) (by decide) ?_
      refine ey_aload_n (cd_351 rfl) f0 ?_
      refine ey_iload_n (cd_351 rfl) f1 ?_
      refine ey_iload_n (cd_351 rfl) f3 ?_
      obtain ⟨v14, e15, e⟩ := jbind e
      refine ey_cv (s0 := [jI x3, jI x1, jR (some 76), jI 864, jR (some 99), jI v12]) (s1 := [jI 864, jR (some 99), jI v12]) (st' := [jI v14, jI 864, jR (some 99), jI v12]) (cd_351 rfl) mt_351 mt_318 rfl rfl rfl (jhm_is hb) rfl (jsml_s rfl) rfl (ok_318 hb h6 e15) ?_
      refine ey_imul (cd_351 rfl) ?_
      refine ey_iload (cd_351 rfl) f5 ?_
      refine ey_cs (s0 := [jI x5, jI (864 * v14), jR (some 99), jI v12]) (s1 := [jI (864 * v14), jR (some 99), jI v12]) (st' := [jI (jd_207 x5), jI (864 * v14), jR (some 99), jI v12]) (cd_351 rfl) mt_351 mt_207 rfl (by decide) rfl rfl (jsml_s rfl) rfl (ok_207 ) ?_
      refine ey_iadd (cd_351 rfl) ?_
      refine ey_iload (cd_351 rfl) f7 ?_
      refine ey_iadd (cd_351 rfl) ?_
      obtain ⟨v16, e17, e⟩ := jbind e
      refine ey_iald (cd_351 rfl) (jhm_ai hb h6 (by decide) rfl e17) ?_
      have K20 : ∀ lv : jL, lv 0 = some (jR (some 76)) → lv 1 = some (jI x1) → lv 2 = some (jI x2) → lv 3 = some (jI x3) → lv 5 = some (jI x5) → lv 6 = some (jI x6) → lv 7 = some (jI x7) → ey (mm_xt L xs) 1 351 108 lv [jI (if (jw v12) = (jw v16) then 1 else 0)] (jhm b m) r := by
        intro lv g0 g1 g2 g3 g5 g6 g7
        obtain ⟨z18, e19, e⟩ := jbind e
        refine ey_rs (s0 := [jI (if (jw v12) = (jw v16) then 1 else 0)]) (s1 := [jI z18]) (by rw [show (if (jw v12) = (jw v16) then 1 else 0) = z18 from Option.some.inj e19]) ?_
        refine ey_istore (cd_351 rfl) mt_351 rfl ?_
        refine ey_iinc (cd_351 rfl) mt_351 rfl g7 ?_
        refine ey_goto (cd_351 rfl) rfl ?_
        cases e
        exact K (jup (jup lv 4 (jI z18)) 7 (jI (x7 + 1))) g0 g1 g2 (jup_o rfl (jup_pi (lv := lv) (j := 3) (v := jI z18) (z := x3) g3)) rfl g5 (jup_pi (lv := (jup lv 4 (jI z18))) (j := 6) (v := jI (x7 + 1)) (z := x6) g6) rfl
      by_cases q21 : (jw v12) = (jw v16)
      · refine ey_nne (cd_351 rfl) rfl rfl rfl (fun w => w q21) ?_
        refine ey_iconst (cd_351 rfl) ?_
        refine ey_goto (cd_351 rfl) rfl ?_
        exact ey_rs (s0 := [jI 1]) (s1 := [jI (if (jw v12) = (jw v16) then 1 else 0)]) (by rw [show ((if (jw v12) = (jw v16) then 1 else 0) : Int) = 1 from (if_pos q21)]) (K20 lv f0 f1 f2 f3 f5 f6 f7)
      · refine ey_cne (cd_351 rfl) rfl rfl rfl q21 ?_
        refine ey_iconst (cd_351 rfl) ?_
        exact ey_rs (s0 := [jI 0]) (s1 := [jI (if (jw v12) = (jw v16) then 1 else 0)]) (by rw [show ((if (jw v12) = (jw v16) then 1 else 0) : Int) = 0 from (if_neg q21)]) (K20 lv f0 f1 f2 f3 f5 f6 f7)
theorem jk_351_l40 {L : Nat} {xs : Nat → Int32} {b : jH} (hb : 152 ≤ b.1) (h6 : b.1 ≤ 1000000) {x1 : Int} {x2 : Int} {x3 : Int} {x5 : Int} {x6 : Int} {x4 : Int} {x7 : Int} {m : jM} {x : Int} {r : mm_R} (e : jd_351_l40 x1 x2 x3 x5 x6 x4 x7 m = some x) (K : (∀ lv : jL, lv 0 = some (jR (some 76)) → lv 1 = some (jI x1) → lv 2 = some (jI x2) → lv 3 = some (jI x3) → lv 4 = some (jI x) → lv 5 = some (jI x5) → ey (mm_xt L xs) 1 351 116 lv [] (jhm b m) r)) : ∀ lv : jL, lv 0 = some (jR (some 76)) → lv 1 = some (jI x1) → lv 2 = some (jI x2) → lv 3 = some (jI x3) → lv 4 = some (jI x4) → lv 5 = some (jI x5) → lv 6 = some (jI x6) → lv 7 = some (jI x7) → ey (mm_xt L xs) 1 351 40 lv [] (jhm b m) r := by
  unfold jd_351_l40 at e
  exact jlp_ok2 (P := fun s => ∀ lv : jL, lv 0 = some (jR (some 76)) → lv 1 = some (jI x1) → lv 2 = some (jI x2) → lv 3 = some (jI x3) → lv 4 = some (jI s.1) → lv 5 = some (jI x5) → lv 6 = some (jI x6) → lv 7 = some (jI s.2) → ey (mm_xt L xs) 1 351 40 lv [] (jhm b m) r) (Q := fun x => (∀ lv : jL, lv 0 = some (jR (some 76)) → lv 1 = some (jI x1) → lv 2 = some (jI x2) → lv 3 = some (jI x3) → lv 4 = some (jI x) → lv 5 = some (jI x5) → ey (mm_xt L xs) 1 351 116 lv [] (jhm b m) r)) (fun s q hq hk => jk_351_s40 hb h6 hq hk) jfu _ x e K
set_option maxRecDepth 100000 in
theorem jk_351_s6 {L : Nat} {xs : Nat → Int32} {b : jH} (hb : 152 ≤ b.1) (h6 : b.1 ≤ 1000000) {x1 : Int} {x2 : Int} {x3 : Int} {x4 : Int} {x5 : Int} {m : jM} {o : ((Int × Int) ⊕ Int)} {r : mm_R} (e : jd_351_s6 x1 x2 x3 x4 x5 m = some o) (K : jsm (fun s => (∀ lv : jL, lv 0 = some (jR (some 76)) → lv 1 = some (jI x1) → lv 2 = some (jI x2) → lv 3 = some (jI x3) → lv 4 = some (jI s.1) → lv 5 = some (jI s.2) → ey (mm_xt L xs) 1 351 6 lv [] (jhm b m) r)) (fun x => (∀ lv : jL, lv 4 = some (jI x) → ey (mm_xt L xs) 1 351 122 lv [] (jhm b m) r)) o) : ∀ lv : jL, lv 0 = some (jR (some 76)) → lv 1 = some (jI x1) → lv 2 = some (jI x2) → lv 3 = some (jI x3) → lv 4 = some (jI x4) → lv 5 = some (jI x5) → ey (mm_xt L xs) 1 351 6 lv [] (jhm b m) r := by
  intro lv f0 f1 f2 f3 f4 f5
  unfold jd_351_s6 at e
  refine ey_iload (cd_351 rfl) f5 ?_
  refine ey_iconst (cd_351 rfl) ?_
  by_cases q1 : 3 ≤ (jw x5)
  · rw [if_pos q1] at e
    refine ey_cge (cd_351 rfl) rfl rfl (show jw 3 = 3 from by decide) q1 ?_
    cases e
    exact K lv f4
  · rw [if_neg q1] at e
    refine ey_nge (cd_351 rfl) rfl rfl (show jw 3 = 3 from by decide) q1 ?_
    refine ey_aload_n (cd_351 rfl) f0 ?_
    refine ey_getf_r (cd_351 rfl) mt_351 rfl rfl rfl (jhm_gr (q := 84) hb rfl) ?_
    refine ey_iload_n (cd_351 rfl) f1 ?_
    obtain ⟨v2, e3, e⟩ := jbind e
    refine ey_iald (cd_351 rfl) (jhm_ai hb h6 (by decide) rfl e3) ?_
    refine ey_iload (cd_351 rfl) f5 ?_
    refine ey_cs (s0 := [jI x5, jI v2]) (s1 := []) (st' := [jI (jd_206 v2 x5)]) (cd_351 rfl) mt_351 mt_206 rfl (by decide) rfl rfl (jsml_s rfl) rfl (ok_206 ) ?_
    refine ey_aload_n (cd_351 rfl) f0 ?_
    refine ey_getf_r (cd_351 rfl) mt_351 rfl rfl rfl (jhm_gr (q := 85) hb rfl) ?_
    refine ey_iload_n (cd_351 rfl) f1 ?_
    obtain ⟨v4, e5, e⟩ := jbind e
    refine ey_iald (cd_351 rfl) (jhm_ai hb h6 (by decide) rfl e5) ?_
    refine ey_iload (cd_351 rfl) f5 ?_
    refine ey_cs (s0 := [jI x5, jI v4, jI (jd_206 v2 x5)]) (s1 := [jI (jd_206 v2 x5)]) (st' := [jI (jd_206 v4 x5), jI (jd_206 v2 x5)]) (cd_351 rfl) mt_351 mt_206 rfl (by decide) rfl rfl (jsml_s rfl) rfl (ok_206 ) ?_
    refine ey_imul (cd_351 rfl) ?_
    obtain ⟨z6, e7, e⟩ := jbind e
    refine ey_rs (s0 := [jI ((jd_206 v2 x5) * (jd_206 v4 x5))]) (s1 := [jI z6]) (by rw [show ((jd_206 v2 x5) * (jd_206 v4 x5)) = z6 from Option.some.inj e7]) ?_
    refine ey_istore (cd_351 rfl) mt_351 rfl ?_
    refine ey_iconst (cd_351 rfl) ?_
    refine ey_istore (cd_351 rfl) mt_351 rfl ?_
    obtain ⟨x22, e23, e⟩ := jbind e
    refine jk_351_l40 hb h6 e23 ?_ (jup (jup lv 6 (jI z6)) 7 (jI 0)) f0 f1 f2 f3 f4 (jup_o rfl (jup_pi (lv := lv) (j := 5) (v := jI z6) (z := x5) f5)) (jup_pi (lv := (jup lv 6 (jI z6))) (j := 6) (v := jI 0) (z := z6) rfl) rfl
    intro lv g0 g1 g2 g3 g4 g5
    refine ey_iinc (cd_351 rfl) mt_351 rfl g5 ?_
    refine ey_goto (cd_351 rfl) rfl ?_
    cases e
    exact K (jup lv 5 (jI (x5 + 1))) g0 g1 g2 g3 (jup_pi (lv := lv) (j := 4) (v := jI (x5 + 1)) (z := x22) g4) rfl
theorem jk_351_l6 {L : Nat} {xs : Nat → Int32} {b : jH} (hb : 152 ≤ b.1) (h6 : b.1 ≤ 1000000) {x1 : Int} {x2 : Int} {x3 : Int} {x4 : Int} {x5 : Int} {m : jM} {x : Int} {r : mm_R} (e : jd_351_l6 x1 x2 x3 x4 x5 m = some x) (K : (∀ lv : jL, lv 4 = some (jI x) → ey (mm_xt L xs) 1 351 122 lv [] (jhm b m) r)) : ∀ lv : jL, lv 0 = some (jR (some 76)) → lv 1 = some (jI x1) → lv 2 = some (jI x2) → lv 3 = some (jI x3) → lv 4 = some (jI x4) → lv 5 = some (jI x5) → ey (mm_xt L xs) 1 351 6 lv [] (jhm b m) r := by
  unfold jd_351_l6 at e
  exact jlp_ok2 (P := fun s => ∀ lv : jL, lv 0 = some (jR (some 76)) → lv 1 = some (jI x1) → lv 2 = some (jI x2) → lv 3 = some (jI x3) → lv 4 = some (jI s.1) → lv 5 = some (jI s.2) → ey (mm_xt L xs) 1 351 6 lv [] (jhm b m) r) (Q := fun x => (∀ lv : jL, lv 4 = some (jI x) → ey (mm_xt L xs) 1 351 122 lv [] (jhm b m) r)) (fun s q hq hk => jk_351_s6 hb h6 hq hk) jfu _ x e K
set_option maxRecDepth 100000 in
theorem ok_351 {L : Nat} {xs : Nat → Int32} {b : jH} (hb : 152 ≤ b.1) (h6 : b.1 ≤ 1000000) {p0 : Int} {p1 : Int} {p2 : Int} {m : jM} {o : Int} (e : jd_351 p0 p1 p2 m = some o) : mm_Runs (mm_xt L xs) 2 351 ([jR (some 76), jI p0, jI p1, jI p2].map jcv) (jaH (jhm b m)) (.inl (some (jcv (jI o)), jaH (jhm b m))) := by
  refine ey_run0 _ mt_351 (jsl_s rfl) ?_
  unfold jd_351 at e
  refine ey_iconst (cd_351 rfl) ?_
  refine ey_istore (cd_351 rfl) mt_351 rfl ?_
  refine ey_iconst (cd_351 rfl) ?_
  refine ey_istore (cd_351 rfl) mt_351 rfl ?_
  obtain ⟨x24, e25, e⟩ := jbind e
  refine jk_351_l6 hb h6 e25 ?_ (jup (jup (jlf (jla 0 [jR (some 76), jI p0, jI p1, jI p2])) 4 (jI 1)) 5 (jI 0)) rfl rfl rfl (jup_o rfl (jup_pi (lv := (jlf (jla 0 [jR (some 76), jI p0, jI p1, jI p2]))) (j := 3) (v := jI 1) (z := p2) rfl)) (jup_pi (lv := (jup (jlf (jla 0 [jR (some 76), jI p0, jI p1, jI p2])) 4 (jI 1))) (j := 4) (v := jI 0) (z := 1) rfl) rfl
  intro lv g4
  refine ey_iload (cd_351 rfl) g4 ?_
  obtain ⟨u26, e27, e⟩ := jbind e
  cases e
  exact ey_retz (cd_351 rfl) mt_351 rfl (jbc_s e27)
theorem cd_352 {pc : Nat} {i : Instr × Nat} (h : mm_lk mm_c352 pc = some i) : mm_cd 352 pc = some i := h
theorem mt_352 : mm_MT 352 = (12, 4, some .int, 2, 0, []) := rfl
set_option maxRecDepth 100000 in
theorem jk_352_s29 {L : Nat} {xs : Nat → Int32} {b : jH} (hb : 152 ≤ b.1) (h6 : b.1 ≤ 1000000) {x1 : Int} {x2 : Int} {x3 : Int} {m : jM} {o : (Int ⊕ (Int ⊕ Unit))} {r : mm_R} (e : jd_352_s29 x1 x2 x3 m = some o) (K : jsm (fun s => (∀ lv : jL, lv 0 = some (jR (some 76)) → lv 1 = some (jI x1) → lv 2 = some (jI x2) → lv 3 = some (jI s) → ey (mm_xt L xs) 3 352 29 lv [] (jhm b m) r)) (fun x => (jsm (fun y => (∀ lv : jL, lv 3 = some (jI y) → ey (mm_xt L xs) 3 352 44 lv [] (jhm b m) r)) (fun z => (∀ lv : jL, ey (mm_xt L xs) 3 352 52 lv [] (jhm b m) r)) x)) o) : ∀ lv : jL, lv 0 = some (jR (some 76)) → lv 1 = some (jI x1) → lv 2 = some (jI x2) → lv 3 = some (jI x3) → ey (mm_xt L xs) 3 352 29 lv [] (jhm b m) r := by
  intro lv f0 f1 f2 f3
  unfold jd_352_s29 at e
  refine ey_iload_n (cd_352 rfl) f3 ?_
  refine ey_iload_n (cd_352 rfl) f2 ?_
  by_cases q6 : (jw x2) ≤ (jw x3)
  · rw [if_pos q6] at e
    refine ey_cge (cd_352 rfl) rfl rfl rfl q6 ?_
    cases e
    exact K lv 
  · rw [if_neg q6] at e
    refine ey_nge (cd_352 rfl) rfl rfl rfl q6 ?_
    refine ey_aload_n (cd_352 rfl) f0 ?_
    refine ey_iload_n (cd_352 rfl) f1 ?_
    refine ey_iload_n (cd_352 rfl) f2 ?_
    refine ey_iload_n (cd_352 rfl) f3 ?_
    obtain ⟨v7, e8, e⟩ := jbind e
    refine ey_cv (s0 := [jI x3, jI x2, jI x1, jR (some 76)]) (s1 := []) (st' := [jI v7]) (cd_352 rfl) mt_352 mt_351 rfl rfl rfl (jhm_is hb) rfl (jsml_s rfl) rfl (mm_Runs.up (d := 2) (by decide) (ok_351 hb h6 e8)) ?_
    by_cases q9 : (jw v7) = 0
    · rw [if_pos q9] at e
      refine ey_zeq (cd_352 rfl) rfl rfl q9 ?_
      refine ey_iinc (cd_352 rfl) mt_352 rfl f3 ?_
      refine ey_goto (cd_352 rfl) rfl ?_
      cases e
      exact K (jup lv 3 (jI (x3 + 1))) f0 f1 (jup_pi (lv := lv) (j := 2) (v := jI (x3 + 1)) (z := x2) f2) rfl
    · rw [if_neg q9] at e
      refine ey_yeq (cd_352 rfl) rfl rfl q9 ?_
      cases e
      exact K lv f3
theorem jk_352_l29 {L : Nat} {xs : Nat → Int32} {b : jH} (hb : 152 ≤ b.1) (h6 : b.1 ≤ 1000000) {x1 : Int} {x2 : Int} {x3 : Int} {m : jM} {x : (Int ⊕ Unit)} {r : mm_R} (e : jd_352_l29 x1 x2 x3 m = some x) (K : (jsm (fun y => (∀ lv : jL, lv 3 = some (jI y) → ey (mm_xt L xs) 3 352 44 lv [] (jhm b m) r)) (fun z => (∀ lv : jL, ey (mm_xt L xs) 3 352 52 lv [] (jhm b m) r)) x)) : ∀ lv : jL, lv 0 = some (jR (some 76)) → lv 1 = some (jI x1) → lv 2 = some (jI x2) → lv 3 = some (jI x3) → ey (mm_xt L xs) 3 352 29 lv [] (jhm b m) r := by
  unfold jd_352_l29 at e
  exact jlp_ok2 (P := fun s => ∀ lv : jL, lv 0 = some (jR (some 76)) → lv 1 = some (jI x1) → lv 2 = some (jI x2) → lv 3 = some (jI s) → ey (mm_xt L xs) 3 352 29 lv [] (jhm b m) r) (Q := fun x => (jsm (fun y => (∀ lv : jL, lv 3 = some (jI y) → ey (mm_xt L xs) 3 352 44 lv [] (jhm b m) r)) (fun z => (∀ lv : jL, ey (mm_xt L xs) 3 352 52 lv [] (jhm b m) r)) x)) (fun s q hq hk => jk_352_s29 hb h6 hq hk) jfu _ x e K
set_option maxRecDepth 100000 in
theorem ok_352 {L : Nat} {xs : Nat → Int32} {b : jH} (hb : 152 ≤ b.1) (h6 : b.1 ≤ 1000000) {p0 : Int} {p1 : Int} {m : jM} {o : (Int × jM)} (e : jd_352 p0 p1 m = some o) : mm_Runs (mm_xt L xs) 4 352 ([jR (some 76), jI p0, jI p1].map jcv) (jaH (jhm b m)) (.inl (some (jcv (jI o.1)), jaH (jhm b o.2))) := by
  refine ey_run0 _ mt_352 (jsl_s rfl) ?_
  unfold jd_352 at e
  refine ey_aload_n (cd_352 rfl) rfl ?_
  refine ey_aload_n (cd_352 rfl) rfl ?_
  refine ey_iload_n (cd_352 rfl) rfl ?_
  refine ey_iload_n (cd_352 rfl) rfl ?_
  obtain ⟨v1, e2, e⟩ := jbind e
  refine ey_cv (s0 := [jI p1, jI p0, jR (some 76), jR (some 76)]) (s1 := [jR (some 76)]) (st' := [jI v1, jR (some 76)]) (cd_352 rfl) mt_352 mt_314 rfl rfl rfl (jhm_is hb) rfl (jsml_s rfl) rfl (ok_314 hb h6 e2) ?_
  have K14 : ∀ lv : jL, lv 0 = some (jR (some 76)) → lv 1 = some (jI p0) → lv 2 = some (jI p1) → ey (mm_xt L xs) 3 352 15 lv [jI (if (jw v1) = 0 then 1 else 0), jR (some 76)] (jhm b m) (.inl (some (jcv (jI o.1)), jaH (jhm b o.2))) := by
    intro lv g0 g1 g2
    obtain ⟨m3, e4, e⟩ := jbind e
    refine ey_putf_i (cd_352 rfl) mt_352 rfl rfl rfl (jhm_pi' (k := 0) hb e4) ?_
    refine ey_aload_n (cd_352 rfl) g0 ?_
    refine ey_getf_i (z := (m3 76 0)) (cd_352 rfl) mt_352 rfl rfl rfl (jhm_gi hb 0) ?_
    by_cases q5 : (jw (m3 76 0)) ≤ 0
    · rw [if_pos q5] at e
      refine ey_zle (cd_352 rfl) rfl rfl q5 ?_
      refine ey_iconst (cd_352 rfl) ?_
      refine ey_istore_n (cd_352 rfl) mt_352 rfl ?_
      obtain ⟨x10, e11, e⟩ := jbind e
      refine jk_352_l29 hb h6 e11 ?_ (jup lv 3 (jI 0)) g0 g1 (jup_pi (lv := lv) (j := 2) (v := jI 0) (z := p1) g2) rfl
      cases x10 with
      | inl y12 =>
        replace e : (some (y12, m3) : Option (Int × jM)) = some o := e
        intro lv g3
        refine ey_iload_n (cd_352 rfl) g3 ?_
        cases e
        exact ey_reti (cd_352 rfl) mt_352 rfl
      | inr y13 =>
        replace e : (some ((-1), m3) : Option (Int × jM)) = some o := e
        intro lv 
        refine ey_iconst (cd_352 rfl) ?_
        cases e
        exact ey_reti (cd_352 rfl) mt_352 rfl
    · rw [if_neg q5] at e
      refine ey_yle (cd_352 rfl) rfl rfl q5 ?_
      refine ey_iconst (cd_352 rfl) ?_
      cases e
      exact ey_reti (cd_352 rfl) mt_352 rfl
  by_cases q15 : (jw v1) = 0
  · refine ey_zeq (cd_352 rfl) rfl rfl q15 ?_
    refine ey_iconst (cd_352 rfl) ?_
    exact ey_rs (s0 := [jI 1, jR (some 76)]) (s1 := [jI (if (jw v1) = 0 then 1 else 0), jR (some 76)]) (by rw [show ((if (jw v1) = 0 then 1 else 0) : Int) = 1 from (if_pos q15)]) (K14 (jlf (jla 0 [jR (some 76), jI p0, jI p1])) rfl rfl rfl)
  · refine ey_yeq (cd_352 rfl) rfl rfl q15 ?_
    refine ey_iconst (cd_352 rfl) ?_
    refine ey_goto (cd_352 rfl) rfl ?_
    exact ey_rs (s0 := [jI 0, jR (some 76)]) (s1 := [jI (if (jw v1) = 0 then 1 else 0), jR (some 76)]) (by rw [show ((if (jw v1) = 0 then 1 else 0) : Int) = 0 from (if_neg q15)]) (K14 (jlf (jla 0 [jR (some 76), jI p0, jI p1])) rfl rfl rfl)
theorem cd_353 {pc : Nat} {i : Instr × Nat} (h : mm_lk mm_c353 pc = some i) : mm_cd 353 pc = some i := h
theorem mt_353 : mm_MT 353 = (12, 1, some .int, 1, 1, []) := rfl
set_option maxRecDepth 100000 in
theorem ok_353 {L : Nat} {xs : Nat → Int32} {p0 : Int} {h : jH} : mm_Runs (mm_xt L xs) 1 353 ([jI p0].map jcv) (jaH h) (.inl (some (jcv (jI (jd_353 p0))), jaH h)) := by
  refine ey_run0 _ mt_353 (jsl_s rfl) ?_
  refine ey_iload_n (cd_353 rfl) rfl ?_
  by_cases q1 : 0 ≤ (jw p0)
  · refine ey_zge (cd_353 rfl) rfl rfl q1 ?_
    refine ey_iload_n (cd_353 rfl) rfl ?_
    rw [show (jd_353 p0) = p0 from by unfold jd_353; exact (if_pos q1)]
    exact ey_reti (cd_353 rfl) mt_353 rfl
  · refine ey_yge (cd_353 rfl) rfl rfl q1 ?_
    refine ey_iload_n (cd_353 rfl) rfl ?_
    refine ey_ineg (cd_353 rfl) ?_
    refine ey_goto (cd_353 rfl) rfl ?_
    rw [show (jd_353 p0) = (-p0) from by unfold jd_353; exact (if_neg q1)]
    exact ey_reti (cd_353 rfl) mt_353 rfl
theorem cd_354 {pc : Nat} {i : Instr × Nat} (h : mm_lk mm_c354 pc = some i) : mm_cd 354 pc = some i := h
theorem mt_354 : mm_MT 354 = (12, 20, some .int, 4, 0, []) := rfl
set_option maxRecDepth 100000 in
theorem jk_354_s166 {L : Nat} {xs : Nat → Int32} {b : jH} (hb : 152 ≤ b.1) (h6 : b.1 ≤ 1000000) {x4 : Int} {x5 : Int} {x6 : Int} {x7 : Int} {x8 : Int} {x9 : Int} {x10 : Int} {x11 : Int} {x12 : Int} {x13 : Int} {x14 : Int} {x15 : Int} {x16 : Int} {x17 : Int} {m : jM} {o : ((Int × Int) ⊕ Int)} {r : mm_R} (e : jd_354_s166 x4 x5 x6 x7 x8 x9 x10 x11 x12 x13 x14 x15 x16 x17 m = some o) (K : jsm (fun s => (∀ lv : jL, lv 0 = some (jR (some 76)) → lv 4 = some (jI x4) → lv 5 = some (jI x5) → lv 6 = some (jI x6) → lv 7 = some (jI x7) → lv 8 = some (jI x8) → lv 9 = some (jI x9) → lv 10 = some (jI x10) → lv 11 = some (jI x11) → lv 12 = some (jI x12) → lv 13 = some (jI x13) → lv 14 = some (jI x14) → lv 15 = some (jI x15) → lv 16 = some (jI s.1) → lv 17 = some (jI s.2) → ey (mm_xt L xs) 3 354 166 lv [] (jhm b m) r)) (fun x => (∀ lv : jL, lv 0 = some (jR (some 76)) → lv 4 = some (jI x4) → lv 5 = some (jI x5) → lv 6 = some (jI x6) → lv 7 = some (jI x7) → lv 8 = some (jI x8) → lv 9 = some (jI x9) → lv 10 = some (jI x10) → lv 11 = some (jI x11) → lv 12 = some (jI x12) → lv 13 = some (jI x13) → lv 14 = some (jI x14) → lv 15 = some (jI x15) → lv 16 = some (jI x) → ey (mm_xt L xs) 3 354 264 lv [] (jhm b m) r)) o) : ∀ lv : jL, lv 0 = some (jR (some 76)) → lv 4 = some (jI x4) → lv 5 = some (jI x5) → lv 6 = some (jI x6) → lv 7 = some (jI x7) → lv 8 = some (jI x8) → lv 9 = some (jI x9) → lv 10 = some (jI x10) → lv 11 = some (jI x11) → lv 12 = some (jI x12) → lv 13 = some (jI x13) → lv 14 = some (jI x14) → lv 15 = some (jI x15) → lv 16 = some (jI x16) → lv 17 = some (jI x17) → ey (mm_xt L xs) 3 354 166 lv [] (jhm b m) r := by
  intro lv f0 f4 f5 f6 f7 f8 f9 f10 f11 f12 f13 f14 f15 f16 f17
  unfold jd_354_s166 at e
  refine ey_iload (cd_354 rfl) f17 ?_
  refine ey_bipush (cd_354 rfl) (by decide) ?_
  by_cases q21 : 64 ≤ (jw x17)
  · rw [if_pos q21] at e
    refine ey_cge (cd_354 rfl) rfl rfl (show jw 64 = 64 from by decide) q21 ?_
    cases e
    exact K lv f0 f4 f5 f6 f7 f8 f9 f10 f11 f12 f13 f14 f15 f16
  · rw [if_neg q21] at e
    refine ey_nge (cd_354 rfl) rfl rfl (show jw 64 = 64 from by decide) q21 ?_
    refine ey_iload (cd_354 rfl) f7 ?_
    refine ey_iload (cd_354 rfl) f17 ?_
    refine ey_bipush (cd_354 rfl) (by decide) ?_
    refine ey_irem (cd_354 rfl) (by decide) ?_
    refine ey_iadd (cd_354 rfl) ?_
    refine ey_istore (cd_354 rfl) mt_354 rfl ?_
    refine ey_iload (cd_354 rfl) f8 ?_
    refine ey_iload (cd_354 rfl) (jup_pi (lv := lv) (j := 17) (v := jI (x7 + (jrem x17 8))) (z := x17) f17) ?_
    refine ey_bipush (cd_354 rfl) (by decide) ?_
    refine ey_idiv (cd_354 rfl) (by decide) ?_
    refine ey_iadd (cd_354 rfl) ?_
    refine ey_istore (cd_354 rfl) mt_354 rfl ?_
    refine ey_iload (cd_354 rfl) f16 ?_
    refine ey_aload_n (cd_354 rfl) f0 ?_
    refine ey_getf_r (cd_354 rfl) mt_354 rfl rfl rfl (jhm_gr (q := 99) hb rfl) ?_
    refine ey_iload (cd_354 rfl) f9 ?_
    refine ey_iload (cd_354 rfl) f5 ?_
    refine ey_iload (cd_354 rfl) rfl ?_
    refine ey_imul (cd_354 rfl) ?_
    refine ey_iadd (cd_354 rfl) ?_
    refine ey_iload (cd_354 rfl) (jup_pi (lv := (jup lv 18 (jI (x7 + (jrem x17 8))))) (j := 18) (v := jI (x8 + (jdiv x17 8))) (z := (x7 + (jrem x17 8))) rfl) ?_
    refine ey_iadd (cd_354 rfl) ?_
    obtain ⟨v22, e23, e⟩ := jbind e
    refine ey_iald (cd_354 rfl) (jhm_ai hb h6 (by decide) rfl e23) ?_
    refine ey_aload_n (cd_354 rfl) f0 ?_
    refine ey_getf_r (cd_354 rfl) mt_354 rfl rfl rfl (jhm_gr (q := 99) hb rfl) ?_
    refine ey_iload (cd_354 rfl) f10 ?_
    refine ey_iload (cd_354 rfl) f5 ?_
    refine ey_iload (cd_354 rfl) rfl ?_
    refine ey_iload (cd_354 rfl) f14 ?_
    refine ey_iadd (cd_354 rfl) ?_
    refine ey_i2l (cd_354 rfl) ?_
    refine ey_iconst (cd_354 rfl) ?_
    refine ey_iload (cd_354 rfl) f6 ?_
    refine ey_iconst (cd_354 rfl) ?_
    refine ey_isub (cd_354 rfl) ?_
    refine ey_cs (s0 := [jI (x6 - 1), jI 0, jJ (jw ((x8 + (jdiv x17 8)) + x14)), jI x5, jI x10, jR (some 99), jI v22, jI x16]) (s1 := [jI x5, jI x10, jR (some 99), jI v22, jI x16]) (st' := [jI (jd_205 (jw ((x8 + (jdiv x17 8)) + x14)) 0 (x6 - 1)), jI x5, jI x10, jR (some 99), jI v22, jI x16]) (cd_354 rfl) mt_354 mt_205 rfl (by decide) rfl rfl (jsml_s rfl) rfl (mm_Runs.up (d := 1) (by decide) (ok_205 )) ?_
    refine ey_imul (cd_354 rfl) ?_
    refine ey_iadd (cd_354 rfl) ?_
    refine ey_iload (cd_354 rfl) (jup_pi (lv := (jup lv 18 (jI (x7 + (jrem x17 8))))) (j := 18) (v := jI (x8 + (jdiv x17 8))) (z := (x7 + (jrem x17 8))) rfl) ?_
    refine ey_iload (cd_354 rfl) f15 ?_
    refine ey_iadd (cd_354 rfl) ?_
    refine ey_i2l (cd_354 rfl) ?_
    refine ey_iconst (cd_354 rfl) ?_
    refine ey_iload (cd_354 rfl) f5 ?_
    refine ey_iconst (cd_354 rfl) ?_
    refine ey_isub (cd_354 rfl) ?_
    refine ey_cs (s0 := [jI (x5 - 1), jI 0, jJ (jw ((x7 + (jrem x17 8)) + x15)), jI (x10 + (x5 * (jd_205 (jw ((x8 + (jdiv x17 8)) + x14)) 0 (x6 - 1)))), jR (some 99), jI v22, jI x16]) (s1 := [jI (x10 + (x5 * (jd_205 (jw ((x8 + (jdiv x17 8)) + x14)) 0 (x6 - 1)))), jR (some 99), jI v22, jI x16]) (st' := [jI (jd_205 (jw ((x7 + (jrem x17 8)) + x15)) 0 (x5 - 1)), jI (x10 + (x5 * (jd_205 (jw ((x8 + (jdiv x17 8)) + x14)) 0 (x6 - 1)))), jR (some 99), jI v22, jI x16]) (cd_354 rfl) mt_354 mt_205 rfl (by decide) rfl rfl (jsml_s rfl) rfl (mm_Runs.up (d := 1) (by decide) (ok_205 )) ?_
    refine ey_iadd (cd_354 rfl) ?_
    obtain ⟨v24, e25, e⟩ := jbind e
    refine ey_iald (cd_354 rfl) (jhm_ai hb h6 (by decide) rfl e25) ?_
    refine ey_isub (cd_354 rfl) ?_
    refine ey_cs (s0 := [jI (v22 - v24), jI x16]) (s1 := [jI x16]) (st' := [jI (jd_353 (v22 - v24)), jI x16]) (cd_354 rfl) mt_354 mt_353 rfl (by decide) rfl rfl (jsml_s rfl) rfl (mm_Runs.up (d := 1) (by decide) (ok_353 )) ?_
    refine ey_iadd (cd_354 rfl) ?_
    refine ey_istore (cd_354 rfl) mt_354 rfl ?_
    refine ey_iinc (cd_354 rfl) mt_354 rfl (jup_o rfl (jup_o rfl (jup_pi (lv := lv) (j := 17) (v := jI (x7 + (jrem x17 8))) (z := x17) f17))) ?_
    refine ey_goto (cd_354 rfl) rfl ?_
    cases e
    exact K (jup (jup (jup (jup lv 18 (jI (x7 + (jrem x17 8)))) 19 (jI (x8 + (jdiv x17 8)))) 16 (jI (x16 + (jd_353 (v22 - v24))))) 17 (jI (x17 + 1))) f0 f4 f5 f6 f7 f8 f9 f10 f11 f12 f13 f14 (jup_o rfl (jup_pi (lv := (jup (jup lv 18 (jI (x7 + (jrem x17 8)))) 19 (jI (x8 + (jdiv x17 8))))) (j := 15) (v := jI (x16 + (jd_353 (v22 - v24)))) (z := x15) f15)) (jup_pi (lv := (jup (jup (jup lv 18 (jI (x7 + (jrem x17 8)))) 19 (jI (x8 + (jdiv x17 8)))) 16 (jI (x16 + (jd_353 (v22 - v24)))))) (j := 16) (v := jI (x17 + 1)) (z := (x16 + (jd_353 (v22 - v24)))) rfl) rfl
theorem jk_354_l166 {L : Nat} {xs : Nat → Int32} {b : jH} (hb : 152 ≤ b.1) (h6 : b.1 ≤ 1000000) {x4 : Int} {x5 : Int} {x6 : Int} {x7 : Int} {x8 : Int} {x9 : Int} {x10 : Int} {x11 : Int} {x12 : Int} {x13 : Int} {x14 : Int} {x15 : Int} {x16 : Int} {x17 : Int} {m : jM} {x : Int} {r : mm_R} (e : jd_354_l166 x4 x5 x6 x7 x8 x9 x10 x11 x12 x13 x14 x15 x16 x17 m = some x) (K : (∀ lv : jL, lv 0 = some (jR (some 76)) → lv 4 = some (jI x4) → lv 5 = some (jI x5) → lv 6 = some (jI x6) → lv 7 = some (jI x7) → lv 8 = some (jI x8) → lv 9 = some (jI x9) → lv 10 = some (jI x10) → lv 11 = some (jI x11) → lv 12 = some (jI x12) → lv 13 = some (jI x13) → lv 14 = some (jI x14) → lv 15 = some (jI x15) → lv 16 = some (jI x) → ey (mm_xt L xs) 3 354 264 lv [] (jhm b m) r)) : ∀ lv : jL, lv 0 = some (jR (some 76)) → lv 4 = some (jI x4) → lv 5 = some (jI x5) → lv 6 = some (jI x6) → lv 7 = some (jI x7) → lv 8 = some (jI x8) → lv 9 = some (jI x9) → lv 10 = some (jI x10) → lv 11 = some (jI x11) → lv 12 = some (jI x12) → lv 13 = some (jI x13) → lv 14 = some (jI x14) → lv 15 = some (jI x15) → lv 16 = some (jI x16) → lv 17 = some (jI x17) → ey (mm_xt L xs) 3 354 166 lv [] (jhm b m) r := by
  unfold jd_354_l166 at e
  exact jlp_ok2 (P := fun s => ∀ lv : jL, lv 0 = some (jR (some 76)) → lv 4 = some (jI x4) → lv 5 = some (jI x5) → lv 6 = some (jI x6) → lv 7 = some (jI x7) → lv 8 = some (jI x8) → lv 9 = some (jI x9) → lv 10 = some (jI x10) → lv 11 = some (jI x11) → lv 12 = some (jI x12) → lv 13 = some (jI x13) → lv 14 = some (jI x14) → lv 15 = some (jI x15) → lv 16 = some (jI s.1) → lv 17 = some (jI s.2) → ey (mm_xt L xs) 3 354 166 lv [] (jhm b m) r) (Q := fun x => (∀ lv : jL, lv 0 = some (jR (some 76)) → lv 4 = some (jI x4) → lv 5 = some (jI x5) → lv 6 = some (jI x6) → lv 7 = some (jI x7) → lv 8 = some (jI x8) → lv 9 = some (jI x9) → lv 10 = some (jI x10) → lv 11 = some (jI x11) → lv 12 = some (jI x12) → lv 13 = some (jI x13) → lv 14 = some (jI x14) → lv 15 = some (jI x15) → lv 16 = some (jI x) → ey (mm_xt L xs) 3 354 264 lv [] (jhm b m) r)) (fun s q hq hk => jk_354_s166 hb h6 hq hk) jfu _ x e K
set_option maxRecDepth 100000 in
theorem jk_354_b314 {L : Nat} {xs : Nat → Int32} {b : jH} (hb : 152 ≤ b.1) (h6 : b.1 ≤ 1000000) {x4 : Int} {x5 : Int} {x6 : Int} {x7 : Int} {x8 : Int} {x9 : Int} {x10 : Int} {x11 : Int} {x12 : Int} {x13 : Int} {x14 : Int} {x15 : Int} {x16 : Int} {y0 : Int} {m : jM} {o : ((Int × Int × Int × Int) ⊕ (Int × Int × Int))} {r : mm_R} (e : jd_354_b314 x4 x5 x6 x7 x8 x9 x10 x11 x12 x13 x14 x15 x16 y0 m = some o) (K : jsm (fun s => (∀ lv : jL, lv 0 = some (jR (some 76)) → lv 4 = some (jI x4) → lv 5 = some (jI x5) → lv 6 = some (jI x6) → lv 7 = some (jI x7) → lv 8 = some (jI x8) → lv 9 = some (jI x9) → lv 10 = some (jI x10) → lv 11 = some (jI s.1) → lv 12 = some (jI s.2.1) → lv 13 = some (jI s.2.2.1) → lv 14 = some (jI x14) → lv 15 = some (jI s.2.2.2) → ey (mm_xt L xs) 3 354 154 lv [] (jhm b m) r)) (fun x => (∀ lv : jL, lv 0 = some (jR (some 76)) → lv 4 = some (jI x4) → lv 5 = some (jI x5) → lv 6 = some (jI x6) → lv 7 = some (jI x7) → lv 8 = some (jI x8) → lv 9 = some (jI x9) → lv 10 = some (jI x10) → lv 11 = some (jI x.1) → lv 12 = some (jI x.2.1) → lv 13 = some (jI x.2.2) → lv 14 = some (jI x14) → ey (mm_xt L xs) 3 354 342 lv [] (jhm b m) r)) o) : ∀ lv : jL, lv 0 = some (jR (some 76)) → lv 4 = some (jI x4) → lv 5 = some (jI x5) → lv 6 = some (jI x6) → lv 7 = some (jI x7) → lv 8 = some (jI x8) → lv 9 = some (jI x9) → lv 10 = some (jI x10) → lv 11 = some (jI x11) → lv 12 = some (jI x12) → lv 13 = some (jI x13) → lv 14 = some (jI x14) → lv 15 = some (jI x15) → lv 16 = some (jI x16) → ey (mm_xt L xs) 3 354 314 lv [jI y0] (jhm b m) r := by
  intro lv f0 f4 f5 f6 f7 f8 f9 f10 f11 f12 f13 f14 f15 f16
  unfold jd_354_b314 at e
  refine ey_istore (cd_354 rfl) mt_354 rfl ?_
  refine ey_iload (cd_354 rfl) rfl ?_
  have K28 : ∀ lv : jL, lv 0 = some (jR (some 76)) → lv 4 = some (jI x4) → lv 5 = some (jI x5) → lv 6 = some (jI x6) → lv 7 = some (jI x7) → lv 8 = some (jI x8) → lv 9 = some (jI x9) → lv 10 = some (jI x10) → lv 11 = some (jI (if (jw y0) = 0 then x11 else x16)) → lv 12 = some (jI (if (jw y0) = 0 then x12 else x15)) → lv 13 = some (jI (if (jw y0) = 0 then x13 else x14)) → lv 14 = some (jI x14) → lv 15 = some (jI x15) → ey (mm_xt L xs) 3 354 336 lv [] (jhm b m) r := by
    intro lv g0 g4 g5 g6 g7 g8 g9 g10 g11 g12 g13 g14 g15
    refine ey_iinc (cd_354 rfl) mt_354 rfl g15 ?_
    refine ey_goto (cd_354 rfl) rfl ?_
    cases e
    exact K (jup lv 15 (jI (x15 + 1))) g0 g4 g5 g6 g7 g8 g9 g10 g11 g12 g13 (jup_pi (lv := lv) (j := 14) (v := jI (x15 + 1)) (z := x14) g14) rfl
  by_cases q29 : (jw y0) = 0
  · refine ey_yne (cd_354 rfl) rfl rfl (fun w => w q29) ?_
    refine ey_goto (cd_354 rfl) rfl ?_
    exact K28 (jup lv 17 (jI y0)) f0 f4 f5 f6 f7 f8 f9 f10 (Eq.trans (show (jup lv 17 (jI y0)) 11 = some (jI x11) from f11) (congrArg (fun z => some (jI z)) (Eq.symm (if_pos q29)))) (Eq.trans (show (jup lv 17 (jI y0)) 12 = some (jI x12) from f12) (congrArg (fun z => some (jI z)) (Eq.symm (if_pos q29)))) (Eq.trans (show (jup lv 17 (jI y0)) 13 = some (jI x13) from f13) (congrArg (fun z => some (jI z)) (Eq.symm (if_pos q29)))) f14 f15
  · refine ey_zne (cd_354 rfl) rfl rfl q29 ?_
    refine ey_iload (cd_354 rfl) (jup_pi (lv := lv) (j := 16) (v := jI y0) (z := x16) f16) ?_
    refine ey_istore (cd_354 rfl) mt_354 rfl ?_
    refine ey_iload (cd_354 rfl) f15 ?_
    refine ey_istore (cd_354 rfl) mt_354 rfl ?_
    refine ey_iload (cd_354 rfl) f14 ?_
    refine ey_istore (cd_354 rfl) mt_354 rfl ?_
    exact K28 (jup (jup (jup (jup lv 17 (jI y0)) 11 (jI x16)) 12 (jI x15)) 13 (jI x14)) f0 f4 f5 f6 f7 f8 f9 (jup_o rfl (jup_o rfl (jup_pi (lv := (jup lv 17 (jI y0))) (j := 10) (v := jI x16) (z := x10) f10))) (Eq.trans (show (jup (jup (jup (jup lv 17 (jI y0)) 11 (jI x16)) 12 (jI x15)) 13 (jI x14)) 11 = some (jI x16) from (jup_o rfl (jup_pi (lv := (jup (jup lv 17 (jI y0)) 11 (jI x16))) (j := 11) (v := jI x15) (z := x16) rfl))) (congrArg (fun z => some (jI z)) (Eq.symm (if_neg q29)))) (Eq.trans (show (jup (jup (jup (jup lv 17 (jI y0)) 11 (jI x16)) 12 (jI x15)) 13 (jI x14)) 12 = some (jI x15) from (jup_pi (lv := (jup (jup (jup lv 17 (jI y0)) 11 (jI x16)) 12 (jI x15))) (j := 12) (v := jI x14) (z := x15) rfl)) (congrArg (fun z => some (jI z)) (Eq.symm (if_neg q29)))) (Eq.trans (show (jup (jup (jup (jup lv 17 (jI y0)) 11 (jI x16)) 12 (jI x15)) 13 (jI x14)) 13 = some (jI x14) from rfl) (congrArg (fun z => some (jI z)) (Eq.symm (if_neg q29)))) f14 f15
set_option maxRecDepth 100000 in
theorem jk_354_s154 {L : Nat} {xs : Nat → Int32} {b : jH} (hb : 152 ≤ b.1) (h6 : b.1 ≤ 1000000) {x4 : Int} {x5 : Int} {x6 : Int} {x7 : Int} {x8 : Int} {x9 : Int} {x10 : Int} {x14 : Int} {x11 : Int} {x12 : Int} {x13 : Int} {x15 : Int} {m : jM} {o : ((Int × Int × Int × Int) ⊕ (Int × Int × Int))} {r : mm_R} (e : jd_354_s154 x4 x5 x6 x7 x8 x9 x10 x14 x11 x12 x13 x15 m = some o) (K : jsm (fun s => (∀ lv : jL, lv 0 = some (jR (some 76)) → lv 4 = some (jI x4) → lv 5 = some (jI x5) → lv 6 = some (jI x6) → lv 7 = some (jI x7) → lv 8 = some (jI x8) → lv 9 = some (jI x9) → lv 10 = some (jI x10) → lv 11 = some (jI s.1) → lv 12 = some (jI s.2.1) → lv 13 = some (jI s.2.2.1) → lv 14 = some (jI x14) → lv 15 = some (jI s.2.2.2) → ey (mm_xt L xs) 3 354 154 lv [] (jhm b m) r)) (fun x => (∀ lv : jL, lv 0 = some (jR (some 76)) → lv 4 = some (jI x4) → lv 5 = some (jI x5) → lv 6 = some (jI x6) → lv 7 = some (jI x7) → lv 8 = some (jI x8) → lv 9 = some (jI x9) → lv 10 = some (jI x10) → lv 11 = some (jI x.1) → lv 12 = some (jI x.2.1) → lv 13 = some (jI x.2.2) → lv 14 = some (jI x14) → ey (mm_xt L xs) 3 354 342 lv [] (jhm b m) r)) o) : ∀ lv : jL, lv 0 = some (jR (some 76)) → lv 4 = some (jI x4) → lv 5 = some (jI x5) → lv 6 = some (jI x6) → lv 7 = some (jI x7) → lv 8 = some (jI x8) → lv 9 = some (jI x9) → lv 10 = some (jI x10) → lv 11 = some (jI x11) → lv 12 = some (jI x12) → lv 13 = some (jI x13) → lv 14 = some (jI x14) → lv 15 = some (jI x15) → ey (mm_xt L xs) 3 354 154 lv [] (jhm b m) r := by
  intro lv f0 f4 f5 f6 f7 f8 f9 f10 f11 f12 f13 f14 f15
  unfold jd_354_s154 at e
  refine ey_iload (cd_354 rfl) f15 ?_
  refine ey_iconst (cd_354 rfl) ?_
  by_cases q20 : 4 < (jw x15)
  · rw [if_pos q20] at e
    refine ey_cgt (cd_354 rfl) rfl rfl (show jw 4 = 4 from by decide) q20 ?_
    cases e
    exact K lv f0 f4 f5 f6 f7 f8 f9 f10 f11 f12 f13 f14
  · rw [if_neg q20] at e
    refine ey_ngt (cd_354 rfl) rfl rfl (show jw 4 = 4 from by decide) q20 ?_
    refine ey_iconst (cd_354 rfl) ?_
    refine ey_istore (cd_354 rfl) mt_354 rfl ?_
    refine ey_iconst (cd_354 rfl) ?_
    refine ey_istore (cd_354 rfl) mt_354 rfl ?_
    obtain ⟨x26, e27, e⟩ := jbind e
    refine jk_354_l166 hb h6 e27 ?_ (jup (jup lv 16 (jI 0)) 17 (jI 0)) f0 f4 f5 f6 f7 f8 f9 f10 f11 f12 f13 f14 (jup_o rfl (jup_pi (lv := lv) (j := 15) (v := jI 0) (z := x15) f15)) (jup_pi (lv := (jup lv 16 (jI 0))) (j := 16) (v := jI 0) (z := 0) rfl) rfl
    intro lv g0 g4 g5 g6 g7 g8 g9 g10 g11 g12 g13 g14 g15 g16
    refine ey_iload (cd_354 rfl) g11 ?_
    refine ey_iconst (cd_354 rfl) ?_
    have K30 : ∀ lv : jL, lv 0 = some (jR (some 76)) → lv 4 = some (jI x4) → lv 5 = some (jI x5) → lv 6 = some (jI x6) → lv 7 = some (jI x7) → lv 8 = some (jI x8) → lv 9 = some (jI x9) → lv 10 = some (jI x10) → lv 11 = some (jI x11) → lv 12 = some (jI x12) → lv 13 = some (jI x13) → lv 14 = some (jI x14) → lv 15 = some (jI x15) → lv 16 = some (jI x26) → ey (mm_xt L xs) 3 354 314 lv [jI (if (jw x11) = (-1) then 1 else (if (jw x26) < (jw x11) then 1 else (if (jw x26) = (jw x11) then (if (jw ((jd_353 x12) + (jd_353 x13))) ≤ (jw ((jd_353 x15) + (jd_353 x14))) then 0 else 1) else 0)))] (jhm b m) r := by
      intro lv g0 g4 g5 g6 g7 g8 g9 g10 g11 g12 g13 g14 g15 g16
      exact jk_354_b314 hb h6 e K lv g0 g4 g5 g6 g7 g8 g9 g10 g11 g12 g13 g14 g15 g16
    by_cases q31 : (jw x11) = (-1)
    · refine ey_ceq (cd_354 rfl) rfl rfl (show jw (-1) = (-1) from by decide) q31 ?_
      refine ey_iconst (cd_354 rfl) ?_
      refine ey_goto (cd_354 rfl) rfl ?_
      exact ey_rs (s0 := [jI 1]) (s1 := [jI (if (jw x11) = (-1) then 1 else (if (jw x26) < (jw x11) then 1 else (if (jw x26) = (jw x11) then (if (jw ((jd_353 x12) + (jd_353 x13))) ≤ (jw ((jd_353 x15) + (jd_353 x14))) then 0 else 1) else 0)))]) (by rw [show ((if (jw x11) = (-1) then 1 else (if (jw x26) < (jw x11) then 1 else (if (jw x26) = (jw x11) then (if (jw ((jd_353 x12) + (jd_353 x13))) ≤ (jw ((jd_353 x15) + (jd_353 x14))) then 0 else 1) else 0))) : Int) = 1 from (if_pos q31)]) (K30 lv g0 g4 g5 g6 g7 g8 g9 g10 g11 g12 g13 g14 g15 g16)
    · refine ey_neq (cd_354 rfl) rfl rfl (show jw (-1) = (-1) from by decide) q31 ?_
      refine ey_iload (cd_354 rfl) g16 ?_
      refine ey_iload (cd_354 rfl) g11 ?_
      by_cases q32 : (jw x26) < (jw x11)
      · refine ey_clt (cd_354 rfl) rfl rfl rfl q32 ?_
        refine ey_iconst (cd_354 rfl) ?_
        refine ey_goto (cd_354 rfl) rfl ?_
        exact ey_rs (s0 := [jI 1]) (s1 := [jI (if (jw x11) = (-1) then 1 else (if (jw x26) < (jw x11) then 1 else (if (jw x26) = (jw x11) then (if (jw ((jd_353 x12) + (jd_353 x13))) ≤ (jw ((jd_353 x15) + (jd_353 x14))) then 0 else 1) else 0)))]) (by rw [show ((if (jw x11) = (-1) then 1 else (if (jw x26) < (jw x11) then 1 else (if (jw x26) = (jw x11) then (if (jw ((jd_353 x12) + (jd_353 x13))) ≤ (jw ((jd_353 x15) + (jd_353 x14))) then 0 else 1) else 0))) : Int) = 1 from ((if_neg q31).trans (if_pos q32))]) (K30 lv g0 g4 g5 g6 g7 g8 g9 g10 g11 g12 g13 g14 g15 g16)
      · refine ey_nlt (cd_354 rfl) rfl rfl rfl q32 ?_
        refine ey_iload (cd_354 rfl) g16 ?_
        refine ey_iload (cd_354 rfl) g11 ?_
        by_cases q33 : (jw x26) = (jw x11)
        · refine ey_nne (cd_354 rfl) rfl rfl rfl (fun w => w q33) ?_
          refine ey_iload (cd_354 rfl) g15 ?_
          refine ey_cs (s0 := [jI x15]) (s1 := []) (st' := [jI (jd_353 x15)]) (cd_354 rfl) mt_354 mt_353 rfl (by decide) rfl rfl (jsml_s rfl) rfl (mm_Runs.up (d := 1) (by decide) (ok_353 )) ?_
          refine ey_iload (cd_354 rfl) g14 ?_
          refine ey_cs (s0 := [jI x14, jI (jd_353 x15)]) (s1 := [jI (jd_353 x15)]) (st' := [jI (jd_353 x14), jI (jd_353 x15)]) (cd_354 rfl) mt_354 mt_353 rfl (by decide) rfl rfl (jsml_s rfl) rfl (mm_Runs.up (d := 1) (by decide) (ok_353 )) ?_
          refine ey_iadd (cd_354 rfl) ?_
          refine ey_iload (cd_354 rfl) g12 ?_
          refine ey_cs (s0 := [jI x12, jI ((jd_353 x15) + (jd_353 x14))]) (s1 := [jI ((jd_353 x15) + (jd_353 x14))]) (st' := [jI (jd_353 x12), jI ((jd_353 x15) + (jd_353 x14))]) (cd_354 rfl) mt_354 mt_353 rfl (by decide) rfl rfl (jsml_s rfl) rfl (mm_Runs.up (d := 1) (by decide) (ok_353 )) ?_
          refine ey_iload (cd_354 rfl) g13 ?_
          refine ey_cs (s0 := [jI x13, jI (jd_353 x12), jI ((jd_353 x15) + (jd_353 x14))]) (s1 := [jI (jd_353 x12), jI ((jd_353 x15) + (jd_353 x14))]) (st' := [jI (jd_353 x13), jI (jd_353 x12), jI ((jd_353 x15) + (jd_353 x14))]) (cd_354 rfl) mt_354 mt_353 rfl (by decide) rfl rfl (jsml_s rfl) rfl (mm_Runs.up (d := 1) (by decide) (ok_353 )) ?_
          refine ey_iadd (cd_354 rfl) ?_
          by_cases q34 : (jw ((jd_353 x12) + (jd_353 x13))) ≤ (jw ((jd_353 x15) + (jd_353 x14)))
          · refine ey_cge (cd_354 rfl) rfl rfl rfl q34 ?_
            refine ey_iconst (cd_354 rfl) ?_
            exact ey_rs (s0 := [jI 0]) (s1 := [jI (if (jw x11) = (-1) then 1 else (if (jw x26) < (jw x11) then 1 else (if (jw x26) = (jw x11) then (if (jw ((jd_353 x12) + (jd_353 x13))) ≤ (jw ((jd_353 x15) + (jd_353 x14))) then 0 else 1) else 0)))]) (by rw [show ((if (jw x11) = (-1) then 1 else (if (jw x26) < (jw x11) then 1 else (if (jw x26) = (jw x11) then (if (jw ((jd_353 x12) + (jd_353 x13))) ≤ (jw ((jd_353 x15) + (jd_353 x14))) then 0 else 1) else 0))) : Int) = 0 from ((if_neg q31).trans ((if_neg q32).trans ((if_pos q33).trans (if_pos q34))))]) (K30 lv g0 g4 g5 g6 g7 g8 g9 g10 g11 g12 g13 g14 g15 g16)
          · refine ey_nge (cd_354 rfl) rfl rfl rfl q34 ?_
            refine ey_iconst (cd_354 rfl) ?_
            refine ey_goto (cd_354 rfl) rfl ?_
            exact ey_rs (s0 := [jI 1]) (s1 := [jI (if (jw x11) = (-1) then 1 else (if (jw x26) < (jw x11) then 1 else (if (jw x26) = (jw x11) then (if (jw ((jd_353 x12) + (jd_353 x13))) ≤ (jw ((jd_353 x15) + (jd_353 x14))) then 0 else 1) else 0)))]) (by rw [show ((if (jw x11) = (-1) then 1 else (if (jw x26) < (jw x11) then 1 else (if (jw x26) = (jw x11) then (if (jw ((jd_353 x12) + (jd_353 x13))) ≤ (jw ((jd_353 x15) + (jd_353 x14))) then 0 else 1) else 0))) : Int) = 1 from ((if_neg q31).trans ((if_neg q32).trans ((if_pos q33).trans (if_neg q34))))]) (K30 lv g0 g4 g5 g6 g7 g8 g9 g10 g11 g12 g13 g14 g15 g16)
        · refine ey_cne (cd_354 rfl) rfl rfl rfl q33 ?_
          refine ey_iconst (cd_354 rfl) ?_
          exact ey_rs (s0 := [jI 0]) (s1 := [jI (if (jw x11) = (-1) then 1 else (if (jw x26) < (jw x11) then 1 else (if (jw x26) = (jw x11) then (if (jw ((jd_353 x12) + (jd_353 x13))) ≤ (jw ((jd_353 x15) + (jd_353 x14))) then 0 else 1) else 0)))]) (by rw [show ((if (jw x11) = (-1) then 1 else (if (jw x26) < (jw x11) then 1 else (if (jw x26) = (jw x11) then (if (jw ((jd_353 x12) + (jd_353 x13))) ≤ (jw ((jd_353 x15) + (jd_353 x14))) then 0 else 1) else 0))) : Int) = 0 from ((if_neg q31).trans ((if_neg q32).trans (if_neg q33)))]) (K30 lv g0 g4 g5 g6 g7 g8 g9 g10 g11 g12 g13 g14 g15 g16)
theorem jk_354_l154 {L : Nat} {xs : Nat → Int32} {b : jH} (hb : 152 ≤ b.1) (h6 : b.1 ≤ 1000000) {x4 : Int} {x5 : Int} {x6 : Int} {x7 : Int} {x8 : Int} {x9 : Int} {x10 : Int} {x14 : Int} {x11 : Int} {x12 : Int} {x13 : Int} {x15 : Int} {m : jM} {x : (Int × Int × Int)} {r : mm_R} (e : jd_354_l154 x4 x5 x6 x7 x8 x9 x10 x14 x11 x12 x13 x15 m = some x) (K : (∀ lv : jL, lv 0 = some (jR (some 76)) → lv 4 = some (jI x4) → lv 5 = some (jI x5) → lv 6 = some (jI x6) → lv 7 = some (jI x7) → lv 8 = some (jI x8) → lv 9 = some (jI x9) → lv 10 = some (jI x10) → lv 11 = some (jI x.1) → lv 12 = some (jI x.2.1) → lv 13 = some (jI x.2.2) → lv 14 = some (jI x14) → ey (mm_xt L xs) 3 354 342 lv [] (jhm b m) r)) : ∀ lv : jL, lv 0 = some (jR (some 76)) → lv 4 = some (jI x4) → lv 5 = some (jI x5) → lv 6 = some (jI x6) → lv 7 = some (jI x7) → lv 8 = some (jI x8) → lv 9 = some (jI x9) → lv 10 = some (jI x10) → lv 11 = some (jI x11) → lv 12 = some (jI x12) → lv 13 = some (jI x13) → lv 14 = some (jI x14) → lv 15 = some (jI x15) → ey (mm_xt L xs) 3 354 154 lv [] (jhm b m) r := by
  unfold jd_354_l154 at e
  exact jlp_ok2 (P := fun s => ∀ lv : jL, lv 0 = some (jR (some 76)) → lv 4 = some (jI x4) → lv 5 = some (jI x5) → lv 6 = some (jI x6) → lv 7 = some (jI x7) → lv 8 = some (jI x8) → lv 9 = some (jI x9) → lv 10 = some (jI x10) → lv 11 = some (jI s.1) → lv 12 = some (jI s.2.1) → lv 13 = some (jI s.2.2.1) → lv 14 = some (jI x14) → lv 15 = some (jI s.2.2.2) → ey (mm_xt L xs) 3 354 154 lv [] (jhm b m) r) (Q := fun x => (∀ lv : jL, lv 0 = some (jR (some 76)) → lv 4 = some (jI x4) → lv 5 = some (jI x5) → lv 6 = some (jI x6) → lv 7 = some (jI x7) → lv 8 = some (jI x8) → lv 9 = some (jI x9) → lv 10 = some (jI x10) → lv 11 = some (jI x.1) → lv 12 = some (jI x.2.1) → lv 13 = some (jI x.2.2) → lv 14 = some (jI x14) → ey (mm_xt L xs) 3 354 342 lv [] (jhm b m) r)) (fun s q hq hk => jk_354_s154 hb h6 hq hk) jfu _ x e K
set_option maxRecDepth 100000 in
theorem jk_354_s144 {L : Nat} {xs : Nat → Int32} {b : jH} (hb : 152 ≤ b.1) (h6 : b.1 ≤ 1000000) {x4 : Int} {x5 : Int} {x6 : Int} {x7 : Int} {x8 : Int} {x9 : Int} {x10 : Int} {x11 : Int} {x12 : Int} {x13 : Int} {x14 : Int} {m : jM} {o : ((Int × Int × Int × Int) ⊕ (Int × Int × Int))} {r : mm_R} (e : jd_354_s144 x4 x5 x6 x7 x8 x9 x10 x11 x12 x13 x14 m = some o) (K : jsm (fun s => (∀ lv : jL, lv 0 = some (jR (some 76)) → lv 4 = some (jI x4) → lv 5 = some (jI x5) → lv 6 = some (jI x6) → lv 7 = some (jI x7) → lv 8 = some (jI x8) → lv 9 = some (jI x9) → lv 10 = some (jI x10) → lv 11 = some (jI s.1) → lv 12 = some (jI s.2.1) → lv 13 = some (jI s.2.2.1) → lv 14 = some (jI s.2.2.2) → ey (mm_xt L xs) 3 354 144 lv [] (jhm b m) r)) (fun x => (∀ lv : jL, lv 4 = some (jI x4) → lv 11 = some (jI x.1) → lv 12 = some (jI x.2.1) → lv 13 = some (jI x.2.2) → ey (mm_xt L xs) 3 354 348 lv [] (jhm b m) r)) o) : ∀ lv : jL, lv 0 = some (jR (some 76)) → lv 4 = some (jI x4) → lv 5 = some (jI x5) → lv 6 = some (jI x6) → lv 7 = some (jI x7) → lv 8 = some (jI x8) → lv 9 = some (jI x9) → lv 10 = some (jI x10) → lv 11 = some (jI x11) → lv 12 = some (jI x12) → lv 13 = some (jI x13) → lv 14 = some (jI x14) → ey (mm_xt L xs) 3 354 144 lv [] (jhm b m) r := by
  intro lv f0 f4 f5 f6 f7 f8 f9 f10 f11 f12 f13 f14
  unfold jd_354_s144 at e
  refine ey_iload (cd_354 rfl) f14 ?_
  refine ey_iconst (cd_354 rfl) ?_
  by_cases q19 : 4 < (jw x14)
  · rw [if_pos q19] at e
    refine ey_cgt (cd_354 rfl) rfl rfl (show jw 4 = 4 from by decide) q19 ?_
    cases e
    exact K lv f4 f11 f12 f13
  · rw [if_neg q19] at e
    refine ey_ngt (cd_354 rfl) rfl rfl (show jw 4 = 4 from by decide) q19 ?_
    refine ey_bipush (cd_354 rfl) (by decide) ?_
    refine ey_istore (cd_354 rfl) mt_354 rfl ?_
    obtain ⟨x35, e36, e⟩ := jbind e
    refine jk_354_l154 hb h6 e36 ?_ (jup lv 15 (jI (-4))) f0 f4 f5 f6 f7 f8 f9 f10 f11 f12 f13 (jup_pi (lv := lv) (j := 14) (v := jI (-4)) (z := x14) f14) rfl
    intro lv g0 g4 g5 g6 g7 g8 g9 g10 g11 g12 g13 g14
    refine ey_iinc (cd_354 rfl) mt_354 rfl g14 ?_
    refine ey_goto (cd_354 rfl) rfl ?_
    cases e
    exact K (jup lv 14 (jI (x14 + 1))) g0 g4 g5 g6 g7 g8 g9 g10 g11 g12 (jup_pi (lv := lv) (j := 13) (v := jI (x14 + 1)) (z := x35.2.2) g13) rfl
theorem jk_354_l144 {L : Nat} {xs : Nat → Int32} {b : jH} (hb : 152 ≤ b.1) (h6 : b.1 ≤ 1000000) {x4 : Int} {x5 : Int} {x6 : Int} {x7 : Int} {x8 : Int} {x9 : Int} {x10 : Int} {x11 : Int} {x12 : Int} {x13 : Int} {x14 : Int} {m : jM} {x : (Int × Int × Int)} {r : mm_R} (e : jd_354_l144 x4 x5 x6 x7 x8 x9 x10 x11 x12 x13 x14 m = some x) (K : (∀ lv : jL, lv 4 = some (jI x4) → lv 11 = some (jI x.1) → lv 12 = some (jI x.2.1) → lv 13 = some (jI x.2.2) → ey (mm_xt L xs) 3 354 348 lv [] (jhm b m) r)) : ∀ lv : jL, lv 0 = some (jR (some 76)) → lv 4 = some (jI x4) → lv 5 = some (jI x5) → lv 6 = some (jI x6) → lv 7 = some (jI x7) → lv 8 = some (jI x8) → lv 9 = some (jI x9) → lv 10 = some (jI x10) → lv 11 = some (jI x11) → lv 12 = some (jI x12) → lv 13 = some (jI x13) → lv 14 = some (jI x14) → ey (mm_xt L xs) 3 354 144 lv [] (jhm b m) r := by
  unfold jd_354_l144 at e
  exact jlp_ok2 (P := fun s => ∀ lv : jL, lv 0 = some (jR (some 76)) → lv 4 = some (jI x4) → lv 5 = some (jI x5) → lv 6 = some (jI x6) → lv 7 = some (jI x7) → lv 8 = some (jI x8) → lv 9 = some (jI x9) → lv 10 = some (jI x10) → lv 11 = some (jI s.1) → lv 12 = some (jI s.2.1) → lv 13 = some (jI s.2.2.1) → lv 14 = some (jI s.2.2.2) → ey (mm_xt L xs) 3 354 144 lv [] (jhm b m) r) (Q := fun x => (∀ lv : jL, lv 4 = some (jI x4) → lv 11 = some (jI x.1) → lv 12 = some (jI x.2.1) → lv 13 = some (jI x.2.2) → ey (mm_xt L xs) 3 354 348 lv [] (jhm b m) r)) (fun s q hq hk => jk_354_s144 hb h6 hq hk) jfu _ x e K
set_option maxRecDepth 100000 in
theorem jk_354_b371 {L : Nat} {xs : Nat → Int32} {b : jH} (hb : 152 ≤ b.1) (h6 : b.1 ≤ 1000000) {y0 : Int} {m : jM} {o : (Int × jM)} (e : jd_354_b371 y0 m = some o) : ∀ lv : jL, ey (mm_xt L xs) 3 354 371 lv [jI y0] (jhm b m) (.inl (some (jcv (jI o.1)), jaH (jhm b o.2))) := by
  intro lv 
  unfold jd_354_b371 at e
  cases e
  exact ey_reti (cd_354 rfl) mt_354 rfl
set_option maxRecDepth 100000 in
theorem jk_354_b31 {L : Nat} {xs : Nat → Int32} {b : jH} (hb : 152 ≤ b.1) (h6 : b.1 ≤ 1000000) {x1 : Int} {x2 : Int} {x3 : Int} {x4 : Int} {m : jM} {o : (Int × jM)} (e : jd_354_b31 x1 x2 x3 x4 m = some o) : ∀ lv : jL, lv 0 = some (jR (some 76)) → lv 1 = some (jI x1) → lv 2 = some (jI x2) → lv 3 = some (jI x3) → lv 4 = some (jI x4) → ey (mm_xt L xs) 3 354 31 lv [jR (some 76)] (jhm b m) (.inl (some (jcv (jI o.1)), jaH (jhm b o.2))) := by
  intro lv f0 f1 f2 f3 f4
  unfold jd_354_b31 at e
  refine ey_iconst (cd_354 rfl) ?_
  refine ey_goto (cd_354 rfl) rfl ?_
  obtain ⟨m4, e5, e⟩ := jbind e
  refine ey_putf_i (cd_354 rfl) mt_354 rfl rfl rfl (jhm_pi' (k := 0) hb e5) ?_
  refine ey_aload_n (cd_354 rfl) f0 ?_
  refine ey_getf_i (z := (m4 76 0)) (cd_354 rfl) mt_354 rfl rfl rfl (jhm_gi hb 0) ?_
  by_cases q6 : (jw (m4 76 0)) ≤ 0
  · rw [if_pos q6] at e
    refine ey_zle (cd_354 rfl) rfl rfl q6 ?_
    refine ey_aload_n (cd_354 rfl) f0 ?_
    refine ey_getf_r (cd_354 rfl) mt_354 rfl rfl rfl (jhm_gr (q := 84) hb rfl) ?_
    refine ey_iload_n (cd_354 rfl) f1 ?_
    obtain ⟨v7, e8, e⟩ := jbind e
    refine ey_iald (cd_354 rfl) (jhm_ai hb h6 (by decide) rfl e8) ?_
    refine ey_istore (cd_354 rfl) mt_354 rfl ?_
    refine ey_aload_n (cd_354 rfl) f0 ?_
    refine ey_getf_r (cd_354 rfl) mt_354 rfl rfl rfl (jhm_gr (q := 85) hb rfl) ?_
    refine ey_iload_n (cd_354 rfl) f1 ?_
    obtain ⟨v9, e10, e⟩ := jbind e
    refine ey_iald (cd_354 rfl) (jhm_ai hb h6 (by decide) rfl e10) ?_
    refine ey_istore (cd_354 rfl) mt_354 rfl ?_
    refine ey_bipush (cd_354 rfl) (by decide) ?_
    refine ey_iload_n (cd_354 rfl) f3 ?_
    refine ey_iload (cd_354 rfl) (jup_pi (lv := (jup lv 5 (jI v7))) (j := 5) (v := jI v9) (z := v7) rfl) ?_
    refine ey_bipush (cd_354 rfl) (by decide) ?_
    refine ey_idiv (cd_354 rfl) (by decide) ?_
    obtain ⟨u11, e12, e⟩ := jbind e
    refine ey_irem (cd_354 rfl) (jnz_s e12) ?_
    refine ey_imul (cd_354 rfl) ?_
    refine ey_istore (cd_354 rfl) mt_354 rfl ?_
    refine ey_bipush (cd_354 rfl) (by decide) ?_
    refine ey_iload_n (cd_354 rfl) f3 ?_
    refine ey_iload (cd_354 rfl) (jup_o rfl (jup_pi (lv := (jup lv 5 (jI v7))) (j := 5) (v := jI v9) (z := v7) rfl)) ?_
    refine ey_bipush (cd_354 rfl) (by decide) ?_
    refine ey_idiv (cd_354 rfl) (by decide) ?_
    obtain ⟨u13, e14, e⟩ := jbind e
    refine ey_idiv (cd_354 rfl) (jnz_s e14) ?_
    refine ey_imul (cd_354 rfl) ?_
    refine ey_istore (cd_354 rfl) mt_354 rfl ?_
    refine ey_sipush (cd_354 rfl) (by decide) ?_
    refine ey_aload_n (cd_354 rfl) f0 ?_
    refine ey_iload_n (cd_354 rfl) f1 ?_
    refine ey_iload_n (cd_354 rfl) f2 ?_
    obtain ⟨v15, e16, e⟩ := jbind e
    refine ey_cv (s0 := [jI x2, jI x1, jR (some 76), jI 864]) (s1 := [jI 864]) (st' := [jI v15, jI 864]) (cd_354 rfl) mt_354 mt_318 rfl rfl rfl (jhm_is hb) rfl (jsml_s rfl) rfl (mm_Runs.up (d := 1) (by decide) (ok_318 hb h6 e16)) ?_
    refine ey_imul (cd_354 rfl) ?_
    refine ey_istore (cd_354 rfl) mt_354 rfl ?_
    refine ey_sipush (cd_354 rfl) (by decide) ?_
    refine ey_aload_n (cd_354 rfl) f0 ?_
    refine ey_iload_n (cd_354 rfl) f1 ?_
    refine ey_iload_n (cd_354 rfl) f2 ?_
    refine ey_iconst (cd_354 rfl) ?_
    refine ey_isub (cd_354 rfl) ?_
    obtain ⟨v17, e18, e⟩ := jbind e
    refine ey_cv (s0 := [jI (x2 - 1), jI x1, jR (some 76), jI 864]) (s1 := [jI 864]) (st' := [jI v17, jI 864]) (cd_354 rfl) mt_354 mt_318 rfl rfl rfl (jhm_is hb) rfl (jsml_s rfl) rfl (mm_Runs.up (d := 1) (by decide) (ok_318 hb h6 e18)) ?_
    refine ey_imul (cd_354 rfl) ?_
    refine ey_istore (cd_354 rfl) mt_354 rfl ?_
    refine ey_iconst (cd_354 rfl) ?_
    refine ey_istore (cd_354 rfl) mt_354 rfl ?_
    refine ey_iconst (cd_354 rfl) ?_
    refine ey_istore (cd_354 rfl) mt_354 rfl ?_
    refine ey_iconst (cd_354 rfl) ?_
    refine ey_istore (cd_354 rfl) mt_354 rfl ?_
    refine ey_bipush (cd_354 rfl) (by decide) ?_
    refine ey_istore (cd_354 rfl) mt_354 rfl ?_
    obtain ⟨x37, e38, e⟩ := jbind e
    refine jk_354_l144 hb h6 e38 ?_ (jup (jup (jup (jup (jup (jup (jup (jup (jup (jup lv 5 (jI v7)) 6 (jI v9)) 7 (jI (8 * (jrem x3 (jdiv v7 8))))) 8 (jI (8 * (jdiv x3 (jdiv v7 8))))) 9 (jI (864 * v15))) 10 (jI (864 * v17))) 11 (jI (-1))) 12 (jI 0)) 13 (jI 0)) 14 (jI (-4))) f0 (jup_o rfl (jup_o rfl (jup_o rfl (jup_o rfl (jup_o rfl (jup_o rfl (jup_o rfl (jup_o rfl (jup_o rfl (jup_pi (lv := lv) (j := 4) (v := jI v7) (z := x4) f4)))))))))) (jup_o rfl (jup_o rfl (jup_o rfl (jup_o rfl (jup_o rfl (jup_o rfl (jup_o rfl (jup_o rfl (jup_pi (lv := (jup lv 5 (jI v7))) (j := 5) (v := jI v9) (z := v7) rfl))))))))) (jup_o rfl (jup_o rfl (jup_o rfl (jup_o rfl (jup_o rfl (jup_o rfl (jup_o rfl (jup_pi (lv := (jup (jup lv 5 (jI v7)) 6 (jI v9))) (j := 6) (v := jI (8 * (jrem x3 (jdiv v7 8)))) (z := v9) rfl)))))))) (jup_o rfl (jup_o rfl (jup_o rfl (jup_o rfl (jup_o rfl (jup_o rfl (jup_pi (lv := (jup (jup (jup lv 5 (jI v7)) 6 (jI v9)) 7 (jI (8 * (jrem x3 (jdiv v7 8)))))) (j := 7) (v := jI (8 * (jdiv x3 (jdiv v7 8)))) (z := (8 * (jrem x3 (jdiv v7 8)))) rfl))))))) (jup_o rfl (jup_o rfl (jup_o rfl (jup_o rfl (jup_o rfl (jup_pi (lv := (jup (jup (jup (jup lv 5 (jI v7)) 6 (jI v9)) 7 (jI (8 * (jrem x3 (jdiv v7 8))))) 8 (jI (8 * (jdiv x3 (jdiv v7 8)))))) (j := 8) (v := jI (864 * v15)) (z := (8 * (jdiv x3 (jdiv v7 8)))) rfl)))))) (jup_o rfl (jup_o rfl (jup_o rfl (jup_o rfl (jup_pi (lv := (jup (jup (jup (jup (jup lv 5 (jI v7)) 6 (jI v9)) 7 (jI (8 * (jrem x3 (jdiv v7 8))))) 8 (jI (8 * (jdiv x3 (jdiv v7 8))))) 9 (jI (864 * v15)))) (j := 9) (v := jI (864 * v17)) (z := (864 * v15)) rfl))))) (jup_o rfl (jup_o rfl (jup_o rfl (jup_pi (lv := (jup (jup (jup (jup (jup (jup lv 5 (jI v7)) 6 (jI v9)) 7 (jI (8 * (jrem x3 (jdiv v7 8))))) 8 (jI (8 * (jdiv x3 (jdiv v7 8))))) 9 (jI (864 * v15))) 10 (jI (864 * v17)))) (j := 10) (v := jI (-1)) (z := (864 * v17)) rfl)))) (jup_o rfl (jup_o rfl (jup_pi (lv := (jup (jup (jup (jup (jup (jup (jup lv 5 (jI v7)) 6 (jI v9)) 7 (jI (8 * (jrem x3 (jdiv v7 8))))) 8 (jI (8 * (jdiv x3 (jdiv v7 8))))) 9 (jI (864 * v15))) 10 (jI (864 * v17))) 11 (jI (-1)))) (j := 11) (v := jI 0) (z := (-1)) rfl))) (jup_o rfl (jup_pi (lv := (jup (jup (jup (jup (jup (jup (jup (jup lv 5 (jI v7)) 6 (jI v9)) 7 (jI (8 * (jrem x3 (jdiv v7 8))))) 8 (jI (8 * (jdiv x3 (jdiv v7 8))))) 9 (jI (864 * v15))) 10 (jI (864 * v17))) 11 (jI (-1))) 12 (jI 0))) (j := 12) (v := jI 0) (z := 0) rfl)) (jup_pi (lv := (jup (jup (jup (jup (jup (jup (jup (jup (jup lv 5 (jI v7)) 6 (jI v9)) 7 (jI (8 * (jrem x3 (jdiv v7 8))))) 8 (jI (8 * (jdiv x3 (jdiv v7 8))))) 9 (jI (864 * v15))) 10 (jI (864 * v17))) 11 (jI (-1))) 12 (jI 0)) 13 (jI 0))) (j := 13) (v := jI (-4)) (z := 0) rfl) rfl
    intro lv g4 g11 g12 g13
    refine ey_iload (cd_354 rfl) g4 ?_
    have K39 : ∀ lv : jL, ey (mm_xt L xs) 3 354 371 lv [jI (if (jw x4) = 0 then x37.2.1 else (if (jw x4) = 1 then x37.2.2 else x37.1))] (jhm b m4) (.inl (some (jcv (jI o.1)), jaH (jhm b o.2))) := by
      intro lv 
      exact jk_354_b371 hb h6 e lv 
    by_cases q40 : (jw x4) = 0
    · refine ey_yne (cd_354 rfl) rfl rfl (fun w => w q40) ?_
      refine ey_iload (cd_354 rfl) g12 ?_
      refine ey_goto (cd_354 rfl) rfl ?_
      exact ey_rs (s0 := [jI x37.2.1]) (s1 := [jI (if (jw x4) = 0 then x37.2.1 else (if (jw x4) = 1 then x37.2.2 else x37.1))]) (by rw [show ((if (jw x4) = 0 then x37.2.1 else (if (jw x4) = 1 then x37.2.2 else x37.1)) : Int) = x37.2.1 from (if_pos q40)]) (K39 lv )
    · refine ey_zne (cd_354 rfl) rfl rfl q40 ?_
      refine ey_iload (cd_354 rfl) g4 ?_
      refine ey_iconst (cd_354 rfl) ?_
      by_cases q41 : (jw x4) = 1
      · refine ey_nne (cd_354 rfl) rfl rfl (show jw 1 = 1 from by decide) (fun w => w q41) ?_
        refine ey_iload (cd_354 rfl) g13 ?_
        refine ey_goto (cd_354 rfl) rfl ?_
        exact ey_rs (s0 := [jI x37.2.2]) (s1 := [jI (if (jw x4) = 0 then x37.2.1 else (if (jw x4) = 1 then x37.2.2 else x37.1))]) (by rw [show ((if (jw x4) = 0 then x37.2.1 else (if (jw x4) = 1 then x37.2.2 else x37.1)) : Int) = x37.2.2 from ((if_neg q40).trans (if_pos q41))]) (K39 lv )
      · refine ey_cne (cd_354 rfl) rfl rfl (show jw 1 = 1 from by decide) q41 ?_
        refine ey_iload (cd_354 rfl) g11 ?_
        exact ey_rs (s0 := [jI x37.1]) (s1 := [jI (if (jw x4) = 0 then x37.2.1 else (if (jw x4) = 1 then x37.2.2 else x37.1))]) (by rw [show ((if (jw x4) = 0 then x37.2.1 else (if (jw x4) = 1 then x37.2.2 else x37.1)) : Int) = x37.1 from ((if_neg q40).trans (if_neg q41))]) (K39 lv )
  · rw [if_neg q6] at e
    refine ey_yle (cd_354 rfl) rfl rfl q6 ?_
    refine ey_iconst (cd_354 rfl) ?_
    cases e
    exact ey_reti (cd_354 rfl) mt_354 rfl
set_option maxRecDepth 100000 in
theorem jk_354_b53 {L : Nat} {xs : Nat → Int32} {b : jH} (hb : 152 ≤ b.1) (h6 : b.1 ≤ 1000000) {x1 : Int} {x2 : Int} {x3 : Int} {x4 : Int} {y0 : Int} {m : jM} {o : (Int × jM)} (e : jd_354_b53 x1 x2 x3 x4 y0 m = some o) : ∀ lv : jL, lv 0 = some (jR (some 76)) → lv 1 = some (jI x1) → lv 2 = some (jI x2) → lv 3 = some (jI x3) → lv 4 = some (jI x4) → ey (mm_xt L xs) 3 354 53 lv [jI y0, jR (some 76)] (jhm b m) (.inl (some (jcv (jI o.1)), jaH (jhm b o.2))) := by
  intro lv f0 f1 f2 f3 f4
  unfold jd_354_b53 at e
  obtain ⟨m45, e46, e⟩ := jbind e
  refine ey_putf_i (cd_354 rfl) mt_354 rfl rfl rfl (jhm_pi' (k := 0) hb e46) ?_
  refine ey_aload_n (cd_354 rfl) f0 ?_
  refine ey_getf_i (z := (m45 76 0)) (cd_354 rfl) mt_354 rfl rfl rfl (jhm_gi hb 0) ?_
  by_cases q47 : (jw (m45 76 0)) ≤ 0
  · rw [if_pos q47] at e
    refine ey_zle (cd_354 rfl) rfl rfl q47 ?_
    refine ey_aload_n (cd_354 rfl) f0 ?_
    refine ey_getf_r (cd_354 rfl) mt_354 rfl rfl rfl (jhm_gr (q := 84) hb rfl) ?_
    refine ey_iload_n (cd_354 rfl) f1 ?_
    obtain ⟨v48, e49, e⟩ := jbind e
    refine ey_iald (cd_354 rfl) (jhm_ai hb h6 (by decide) rfl e49) ?_
    refine ey_istore (cd_354 rfl) mt_354 rfl ?_
    refine ey_aload_n (cd_354 rfl) f0 ?_
    refine ey_getf_r (cd_354 rfl) mt_354 rfl rfl rfl (jhm_gr (q := 85) hb rfl) ?_
    refine ey_iload_n (cd_354 rfl) f1 ?_
    obtain ⟨v50, e51, e⟩ := jbind e
    refine ey_iald (cd_354 rfl) (jhm_ai hb h6 (by decide) rfl e51) ?_
    refine ey_istore (cd_354 rfl) mt_354 rfl ?_
    refine ey_bipush (cd_354 rfl) (by decide) ?_
    refine ey_iload_n (cd_354 rfl) f3 ?_
    refine ey_iload (cd_354 rfl) (jup_pi (lv := (jup lv 5 (jI v48))) (j := 5) (v := jI v50) (z := v48) rfl) ?_
    refine ey_bipush (cd_354 rfl) (by decide) ?_
    refine ey_idiv (cd_354 rfl) (by decide) ?_
    obtain ⟨u52, e53, e⟩ := jbind e
    refine ey_irem (cd_354 rfl) (jnz_s e53) ?_
    refine ey_imul (cd_354 rfl) ?_
    refine ey_istore (cd_354 rfl) mt_354 rfl ?_
    refine ey_bipush (cd_354 rfl) (by decide) ?_
    refine ey_iload_n (cd_354 rfl) f3 ?_
    refine ey_iload (cd_354 rfl) (jup_o rfl (jup_pi (lv := (jup lv 5 (jI v48))) (j := 5) (v := jI v50) (z := v48) rfl)) ?_
    refine ey_bipush (cd_354 rfl) (by decide) ?_
    refine ey_idiv (cd_354 rfl) (by decide) ?_
    obtain ⟨u54, e55, e⟩ := jbind e
    refine ey_idiv (cd_354 rfl) (jnz_s e55) ?_
    refine ey_imul (cd_354 rfl) ?_
    refine ey_istore (cd_354 rfl) mt_354 rfl ?_
    refine ey_sipush (cd_354 rfl) (by decide) ?_
    refine ey_aload_n (cd_354 rfl) f0 ?_
    refine ey_iload_n (cd_354 rfl) f1 ?_
    refine ey_iload_n (cd_354 rfl) f2 ?_
    obtain ⟨v56, e57, e⟩ := jbind e
    refine ey_cv (s0 := [jI x2, jI x1, jR (some 76), jI 864]) (s1 := [jI 864]) (st' := [jI v56, jI 864]) (cd_354 rfl) mt_354 mt_318 rfl rfl rfl (jhm_is hb) rfl (jsml_s rfl) rfl (mm_Runs.up (d := 1) (by decide) (ok_318 hb h6 e57)) ?_
    refine ey_imul (cd_354 rfl) ?_
    refine ey_istore (cd_354 rfl) mt_354 rfl ?_
    refine ey_sipush (cd_354 rfl) (by decide) ?_
    refine ey_aload_n (cd_354 rfl) f0 ?_
    refine ey_iload_n (cd_354 rfl) f1 ?_
    refine ey_iload_n (cd_354 rfl) f2 ?_
    refine ey_iconst (cd_354 rfl) ?_
    refine ey_isub (cd_354 rfl) ?_
    obtain ⟨v58, e59, e⟩ := jbind e
    refine ey_cv (s0 := [jI (x2 - 1), jI x1, jR (some 76), jI 864]) (s1 := [jI 864]) (st' := [jI v58, jI 864]) (cd_354 rfl) mt_354 mt_318 rfl rfl rfl (jhm_is hb) rfl (jsml_s rfl) rfl (mm_Runs.up (d := 1) (by decide) (ok_318 hb h6 e59)) ?_
    refine ey_imul (cd_354 rfl) ?_
    refine ey_istore (cd_354 rfl) mt_354 rfl ?_
    refine ey_iconst (cd_354 rfl) ?_
    refine ey_istore (cd_354 rfl) mt_354 rfl ?_
    refine ey_iconst (cd_354 rfl) ?_
    refine ey_istore (cd_354 rfl) mt_354 rfl ?_
    refine ey_iconst (cd_354 rfl) ?_
    refine ey_istore (cd_354 rfl) mt_354 rfl ?_
    refine ey_bipush (cd_354 rfl) (by decide) ?_
    refine ey_istore (cd_354 rfl) mt_354 rfl ?_
    obtain ⟨x60, e61, e⟩ := jbind e
    refine jk_354_l144 hb h6 e61 ?_ (jup (jup (jup (jup (jup (jup (jup (jup (jup (jup lv 5 (jI v48)) 6 (jI v50)) 7 (jI (8 * (jrem x3 (jdiv v48 8))))) 8 (jI (8 * (jdiv x3 (jdiv v48 8))))) 9 (jI (864 * v56))) 10 (jI (864 * v58))) 11 (jI (-1))) 12 (jI 0)) 13 (jI 0)) 14 (jI (-4))) f0 (jup_o rfl (jup_o rfl (jup_o rfl (jup_o rfl (jup_o rfl (jup_o rfl (jup_o rfl (jup_o rfl (jup_o rfl (jup_pi (lv := lv) (j := 4) (v := jI v48) (z := x4) f4)))))))))) (jup_o rfl (jup_o rfl (jup_o rfl (jup_o rfl (jup_o rfl (jup_o rfl (jup_o rfl (jup_o rfl (jup_pi (lv := (jup lv 5 (jI v48))) (j := 5) (v := jI v50) (z := v48) rfl))))))))) (jup_o rfl (jup_o rfl (jup_o rfl (jup_o rfl (jup_o rfl (jup_o rfl (jup_o rfl (jup_pi (lv := (jup (jup lv 5 (jI v48)) 6 (jI v50))) (j := 6) (v := jI (8 * (jrem x3 (jdiv v48 8)))) (z := v50) rfl)))))))) (jup_o rfl (jup_o rfl (jup_o rfl (jup_o rfl (jup_o rfl (jup_o rfl (jup_pi (lv := (jup (jup (jup lv 5 (jI v48)) 6 (jI v50)) 7 (jI (8 * (jrem x3 (jdiv v48 8)))))) (j := 7) (v := jI (8 * (jdiv x3 (jdiv v48 8)))) (z := (8 * (jrem x3 (jdiv v48 8)))) rfl))))))) (jup_o rfl (jup_o rfl (jup_o rfl (jup_o rfl (jup_o rfl (jup_pi (lv := (jup (jup (jup (jup lv 5 (jI v48)) 6 (jI v50)) 7 (jI (8 * (jrem x3 (jdiv v48 8))))) 8 (jI (8 * (jdiv x3 (jdiv v48 8)))))) (j := 8) (v := jI (864 * v56)) (z := (8 * (jdiv x3 (jdiv v48 8)))) rfl)))))) (jup_o rfl (jup_o rfl (jup_o rfl (jup_o rfl (jup_pi (lv := (jup (jup (jup (jup (jup lv 5 (jI v48)) 6 (jI v50)) 7 (jI (8 * (jrem x3 (jdiv v48 8))))) 8 (jI (8 * (jdiv x3 (jdiv v48 8))))) 9 (jI (864 * v56)))) (j := 9) (v := jI (864 * v58)) (z := (864 * v56)) rfl))))) (jup_o rfl (jup_o rfl (jup_o rfl (jup_pi (lv := (jup (jup (jup (jup (jup (jup lv 5 (jI v48)) 6 (jI v50)) 7 (jI (8 * (jrem x3 (jdiv v48 8))))) 8 (jI (8 * (jdiv x3 (jdiv v48 8))))) 9 (jI (864 * v56))) 10 (jI (864 * v58)))) (j := 10) (v := jI (-1)) (z := (864 * v58)) rfl)))) (jup_o rfl (jup_o rfl (jup_pi (lv := (jup (jup (jup (jup (jup (jup (jup lv 5 (jI v48)) 6 (jI v50)) 7 (jI (8 * (jrem x3 (jdiv v48 8))))) 8 (jI (8 * (jdiv x3 (jdiv v48 8))))) 9 (jI (864 * v56))) 10 (jI (864 * v58))) 11 (jI (-1)))) (j := 11) (v := jI 0) (z := (-1)) rfl))) (jup_o rfl (jup_pi (lv := (jup (jup (jup (jup (jup (jup (jup (jup lv 5 (jI v48)) 6 (jI v50)) 7 (jI (8 * (jrem x3 (jdiv v48 8))))) 8 (jI (8 * (jdiv x3 (jdiv v48 8))))) 9 (jI (864 * v56))) 10 (jI (864 * v58))) 11 (jI (-1))) 12 (jI 0))) (j := 12) (v := jI 0) (z := 0) rfl)) (jup_pi (lv := (jup (jup (jup (jup (jup (jup (jup (jup (jup lv 5 (jI v48)) 6 (jI v50)) 7 (jI (8 * (jrem x3 (jdiv v48 8))))) 8 (jI (8 * (jdiv x3 (jdiv v48 8))))) 9 (jI (864 * v56))) 10 (jI (864 * v58))) 11 (jI (-1))) 12 (jI 0)) 13 (jI 0))) (j := 13) (v := jI (-4)) (z := 0) rfl) rfl
    intro lv g4 g11 g12 g13
    refine ey_iload (cd_354 rfl) g4 ?_
    have K62 : ∀ lv : jL, ey (mm_xt L xs) 3 354 371 lv [jI (if (jw x4) = 0 then x60.2.1 else (if (jw x4) = 1 then x60.2.2 else x60.1))] (jhm b m45) (.inl (some (jcv (jI o.1)), jaH (jhm b o.2))) := by
      intro lv 
      exact jk_354_b371 hb h6 e lv 
    by_cases q63 : (jw x4) = 0
    · refine ey_yne (cd_354 rfl) rfl rfl (fun w => w q63) ?_
      refine ey_iload (cd_354 rfl) g12 ?_
      refine ey_goto (cd_354 rfl) rfl ?_
      exact ey_rs (s0 := [jI x60.2.1]) (s1 := [jI (if (jw x4) = 0 then x60.2.1 else (if (jw x4) = 1 then x60.2.2 else x60.1))]) (by rw [show ((if (jw x4) = 0 then x60.2.1 else (if (jw x4) = 1 then x60.2.2 else x60.1)) : Int) = x60.2.1 from (if_pos q63)]) (K62 lv )
    · refine ey_zne (cd_354 rfl) rfl rfl q63 ?_
      refine ey_iload (cd_354 rfl) g4 ?_
      refine ey_iconst (cd_354 rfl) ?_
      by_cases q64 : (jw x4) = 1
      · refine ey_nne (cd_354 rfl) rfl rfl (show jw 1 = 1 from by decide) (fun w => w q64) ?_
        refine ey_iload (cd_354 rfl) g13 ?_
        refine ey_goto (cd_354 rfl) rfl ?_
        exact ey_rs (s0 := [jI x60.2.2]) (s1 := [jI (if (jw x4) = 0 then x60.2.1 else (if (jw x4) = 1 then x60.2.2 else x60.1))]) (by rw [show ((if (jw x4) = 0 then x60.2.1 else (if (jw x4) = 1 then x60.2.2 else x60.1)) : Int) = x60.2.2 from ((if_neg q63).trans (if_pos q64))]) (K62 lv )
      · refine ey_cne (cd_354 rfl) rfl rfl (show jw 1 = 1 from by decide) q64 ?_
        refine ey_iload (cd_354 rfl) g11 ?_
        exact ey_rs (s0 := [jI x60.1]) (s1 := [jI (if (jw x4) = 0 then x60.2.1 else (if (jw x4) = 1 then x60.2.2 else x60.1))]) (by rw [show ((if (jw x4) = 0 then x60.2.1 else (if (jw x4) = 1 then x60.2.2 else x60.1)) : Int) = x60.1 from ((if_neg q63).trans (if_neg q64))]) (K62 lv )
  · rw [if_neg q47] at e
    refine ey_yle (cd_354 rfl) rfl rfl q47 ?_
    refine ey_iconst (cd_354 rfl) ?_
    cases e
    exact ey_reti (cd_354 rfl) mt_354 rfl
set_option maxRecDepth 100000 in
theorem ok_354 {L : Nat} {xs : Nat → Int32} {b : jH} (hb : 152 ≤ b.1) (h6 : b.1 ≤ 1000000) {p0 : Int} {p1 : Int} {p2 : Int} {p3 : Int} {m : jM} {o : (Int × jM)} (e : jd_354 p0 p1 p2 p3 m = some o) : mm_Runs (mm_xt L xs) 4 354 ([jR (some 76), jI p0, jI p1, jI p2, jI p3].map jcv) (jaH (jhm b m)) (.inl (some (jcv (jI o.1)), jaH (jhm b o.2))) := by
  refine ey_run0 _ mt_354 (jsl_s rfl) ?_
  unfold jd_354 at e
  refine ey_aload_n (cd_354 rfl) rfl ?_
  refine ey_aload_n (cd_354 rfl) rfl ?_
  refine ey_iload_n (cd_354 rfl) rfl ?_
  refine ey_iload_n (cd_354 rfl) rfl ?_
  obtain ⟨v1, e2, e⟩ := jbind e
  refine ey_cv (s0 := [jI p1, jI p0, jR (some 76), jR (some 76)]) (s1 := [jR (some 76)]) (st' := [jI v1, jR (some 76)]) (cd_354 rfl) mt_354 mt_314 rfl rfl rfl (jhm_is hb) rfl (jsml_s rfl) rfl (ok_314 hb h6 e2) ?_
  by_cases q3 : (jw v1) = 0
  · rw [if_pos q3] at e
    refine ey_zeq (cd_354 rfl) rfl rfl q3 ?_
    exact jk_354_b31 hb h6 e (jlf (jla 0 [jR (some 76), jI p0, jI p1, jI p2, jI p3])) rfl rfl rfl rfl rfl
  · rw [if_neg q3] at e
    refine ey_yeq (cd_354 rfl) rfl rfl q3 ?_
    refine ey_iload_n (cd_354 rfl) rfl ?_
    by_cases q42 : (jw p1) = 0
    · rw [if_pos q42] at e
      refine ey_zeq (cd_354 rfl) rfl rfl q42 ?_
      exact jk_354_b31 hb h6 e (jlf (jla 0 [jR (some 76), jI p0, jI p1, jI p2, jI p3])) rfl rfl rfl rfl rfl
    · rw [if_neg q42] at e
      refine ey_yeq (cd_354 rfl) rfl rfl q42 ?_
      refine ey_iload_n (cd_354 rfl) rfl ?_
      refine ey_i2l (cd_354 rfl) ?_
      refine ey_lconst0 (cd_354 rfl) ?_
      refine ey_aload_n (cd_354 rfl) rfl ?_
      refine ey_iload_n (cd_354 rfl) rfl ?_
      obtain ⟨v43, e44, e⟩ := jbind e
      refine ey_cv (s0 := [jI p0, jR (some 76), jJ 0, jJ (jw p2), jR (some 76)]) (s1 := [jJ 0, jJ (jw p2), jR (some 76)]) (st' := [jI v43, jJ 0, jJ (jw p2), jR (some 76)]) (cd_354 rfl) mt_354 mt_316 rfl rfl rfl (jhm_is hb) rfl (jsml_s rfl) rfl (mm_Runs.up (d := 1) (by decide) (ok_316 hb h6 e44)) ?_
      refine ey_iconst (cd_354 rfl) ?_
      refine ey_isub (cd_354 rfl) ?_
      refine ey_i2l (cd_354 rfl) ?_
      refine ey_cs (s0 := [jJ (jw (v43 - 1)), jJ 0, jJ (jw p2), jR (some 76)]) (s1 := [jR (some 76)]) (st' := [jI (jd_204 (jw p2) 0 (jw (v43 - 1))), jR (some 76)]) (cd_354 rfl) mt_354 mt_204 rfl (by decide) rfl rfl (jsml_s rfl) rfl (mm_Runs.up (d := 1) (by decide) (ok_204 )) ?_
      have K65 : ∀ lv : jL, lv 0 = some (jR (some 76)) → lv 1 = some (jI p0) → lv 2 = some (jI p1) → lv 3 = some (jI p2) → lv 4 = some (jI p3) → ey (mm_xt L xs) 3 354 53 lv [jI (if (jw (jd_204 (jw p2) 0 (jw (v43 - 1)))) = 0 then 1 else (if (jw (jd_204 (jw p3) 0 2)) = 0 then 2 else 0)), jR (some 76)] (jhm b m) (.inl (some (jcv (jI o.1)), jaH (jhm b o.2))) := by
        intro lv g0 g1 g2 g3 g4
        exact jk_354_b53 hb h6 e lv g0 g1 g2 g3 g4
      by_cases q66 : (jw (jd_204 (jw p2) 0 (jw (v43 - 1)))) = 0
      · refine ey_yne (cd_354 rfl) rfl rfl (fun w => w q66) ?_
        refine ey_iconst (cd_354 rfl) ?_
        refine ey_goto (cd_354 rfl) rfl ?_
        exact ey_rs (s0 := [jI 1, jR (some 76)]) (s1 := [jI (if (jw (jd_204 (jw p2) 0 (jw (v43 - 1)))) = 0 then 1 else (if (jw (jd_204 (jw p3) 0 2)) = 0 then 2 else 0)), jR (some 76)]) (by rw [show ((if (jw (jd_204 (jw p2) 0 (jw (v43 - 1)))) = 0 then 1 else (if (jw (jd_204 (jw p3) 0 2)) = 0 then 2 else 0)) : Int) = 1 from (if_pos q66)]) (K65 (jlf (jla 0 [jR (some 76), jI p0, jI p1, jI p2, jI p3])) rfl rfl rfl rfl rfl)
      · refine ey_zne (cd_354 rfl) rfl rfl q66 ?_
        refine ey_iload (cd_354 rfl) rfl ?_
        refine ey_i2l (cd_354 rfl) ?_
        refine ey_lconst0 (cd_354 rfl) ?_
        refine ey_ldc2 (z := 2) (cd_354 rfl) mt_354 rfl (by decide) ?_
        refine ey_cs (s0 := [jJ 2, jJ 0, jJ (jw p3), jR (some 76)]) (s1 := [jR (some 76)]) (st' := [jI (jd_204 (jw p3) 0 2), jR (some 76)]) (cd_354 rfl) mt_354 mt_204 rfl (by decide) rfl rfl (jsml_s rfl) rfl (mm_Runs.up (d := 1) (by decide) (ok_204 )) ?_
        by_cases q67 : (jw (jd_204 (jw p3) 0 2)) = 0
        · refine ey_yne (cd_354 rfl) rfl rfl (fun w => w q67) ?_
          refine ey_iconst (cd_354 rfl) ?_
          refine ey_goto (cd_354 rfl) rfl ?_
          exact ey_rs (s0 := [jI 2, jR (some 76)]) (s1 := [jI (if (jw (jd_204 (jw p2) 0 (jw (v43 - 1)))) = 0 then 1 else (if (jw (jd_204 (jw p3) 0 2)) = 0 then 2 else 0)), jR (some 76)]) (by rw [show ((if (jw (jd_204 (jw p2) 0 (jw (v43 - 1)))) = 0 then 1 else (if (jw (jd_204 (jw p3) 0 2)) = 0 then 2 else 0)) : Int) = 2 from ((if_neg q66).trans (if_pos q67))]) (K65 (jlf (jla 0 [jR (some 76), jI p0, jI p1, jI p2, jI p3])) rfl rfl rfl rfl rfl)
        · refine ey_zne (cd_354 rfl) rfl rfl q67 ?_
          refine ey_iconst (cd_354 rfl) ?_
          exact ey_rs (s0 := [jI 0, jR (some 76)]) (s1 := [jI (if (jw (jd_204 (jw p2) 0 (jw (v43 - 1)))) = 0 then 1 else (if (jw (jd_204 (jw p3) 0 2)) = 0 then 2 else 0)), jR (some 76)]) (by rw [show ((if (jw (jd_204 (jw p2) 0 (jw (v43 - 1)))) = 0 then 1 else (if (jw (jd_204 (jw p3) 0 2)) = 0 then 2 else 0)) : Int) = 0 from ((if_neg q66).trans (if_neg q67))]) (K65 (jlf (jla 0 [jR (some 76), jI p0, jI p1, jI p2, jI p3])) rfl rfl rfl rfl rfl)
theorem cd_355 {pc : Nat} {i : Instr × Nat} (h : mm_lk mm_c355 pc = some i) : mm_cd 355 pc = some i := h
theorem mt_355 : mm_MT 355 = (12, 1, some .boolean, 1, 1, []) := rfl
theorem bo_355 {p0 : Int} : jd_355 p0 = 0 ∨ jd_355 p0 = 1 := by
  unfold jd_355
  exact bo_204
set_option maxRecDepth 100000 in
theorem ok_355 {L : Nat} {xs : Nat → Int32} {p0 : Int} {h : jH} : mm_Runs (mm_xt L xs) 2 355 ([jI p0].map jcv) (jaH h) (.inl (some (jcv (jI (jd_355 p0))), jaH h)) := by
  refine ey_run0 _ mt_355 (jsl_s rfl) ?_
  refine ey_iload_n (cd_355 rfl) rfl ?_
  refine ey_i2l (cd_355 rfl) ?_
  refine ey_lconst0 (cd_355 rfl) ?_
  refine ey_ldc2 (z := 3) (cd_355 rfl) mt_355 rfl (by decide) ?_
  refine ey_cs (s0 := [jJ 3, jJ 0, jJ (jw p0)]) (s1 := []) (st' := [jI (jd_204 (jw p0) 0 3)]) (cd_355 rfl) mt_355 mt_204 rfl (by decide) rfl rfl (jsml_s rfl) rfl (ok_204 ) ?_
  rw [show (jd_355 p0) = (jd_204 (jw p0) 0 3) from rfl]
  exact ey_retz (cd_355 rfl) mt_355 rfl bo_204
theorem cd_356 {pc : Nat} {i : Instr × Nat} (h : mm_lk mm_c356 pc = some i) : mm_cd 356 pc = some i := h
theorem mt_356 : mm_MT 356 = (12, 5, none, 4, 0, []) := rfl
set_option maxRecDepth 100000 in
theorem jk_356_b50 {L : Nat} {xs : Nat → Int32} {b : jH} (hb : 152 ≤ b.1) (h6 : b.1 ≤ 1000000) {x1 : Int} {x2 : Int} {x3 : Int} {x4 : Int} {y0 : Int} {m : jM} {o : jM} (e : jd_356_b50 x1 x2 x3 x4 y0 m = some o) : ∀ lv : jL, lv 0 = some (jR (some 76)) → lv 1 = some (jI x1) → lv 2 = some (jI x2) → lv 3 = some (jI x3) → lv 4 = some (jI x4) → ey (mm_xt L xs) 2 356 50 lv [jI y0, jR (some 76)] (jhm b m) (.inl (none, jaH (jhm b o))) := by
  intro lv f0 f1 f2 f3 f4
  unfold jd_356_b50 at e
  obtain ⟨m1, e2, e⟩ := jbind e
  refine ey_putf_i (cd_356 rfl) mt_356 rfl rfl rfl (jhm_pi' (k := 0) hb e2) ?_
  refine ey_aload_n (cd_356 rfl) f0 ?_
  refine ey_getf_i (z := (m1 76 0)) (cd_356 rfl) mt_356 rfl rfl rfl (jhm_gi hb 0) ?_
  by_cases q3 : (jw (m1 76 0)) ≤ 0
  · rw [if_pos q3] at e
    refine ey_zle (cd_356 rfl) rfl rfl q3 ?_
    refine ey_aload_n (cd_356 rfl) f0 ?_
    refine ey_getf_r (cd_356 rfl) mt_356 rfl rfl rfl (jhm_gr (q := 141) hb rfl) ?_
    refine ey_iload_n (cd_356 rfl) f1 ?_
    refine ey_iload_n (cd_356 rfl) f2 ?_
    obtain ⟨m4, e5, e⟩ := jbind e
    refine ey_iast (cd_356 rfl) (jhm_ta hb (by decide) rfl e5) ?_
    refine ey_aload_n (cd_356 rfl) f0 ?_
    refine ey_getf_r (cd_356 rfl) mt_356 rfl rfl rfl (jhm_gr (q := 142) hb rfl) ?_
    refine ey_iload_n (cd_356 rfl) f1 ?_
    refine ey_iload_n (cd_356 rfl) f3 ?_
    obtain ⟨m6, e7, e⟩ := jbind e
    refine ey_iast (cd_356 rfl) (jhm_ta hb (by decide) rfl e7) ?_
    refine ey_aload_n (cd_356 rfl) f0 ?_
    refine ey_getf_r (cd_356 rfl) mt_356 rfl rfl rfl (jhm_gr (q := 143) hb rfl) ?_
    refine ey_iload_n (cd_356 rfl) f1 ?_
    refine ey_iload (cd_356 rfl) f4 ?_
    obtain ⟨m8, e9, e⟩ := jbind e
    refine ey_iast (cd_356 rfl) (jhm_ta hb (by decide) rfl e9) ?_
    refine ey_aload_n (cd_356 rfl) f0 ?_
    refine ey_getf_r (cd_356 rfl) mt_356 rfl rfl rfl (jhm_gr (q := 144) hb rfl) ?_
    refine ey_iload_n (cd_356 rfl) f1 ?_
    refine ey_iconst (cd_356 rfl) ?_
    obtain ⟨m10, e11, e⟩ := jbind e
    refine ey_iast (cd_356 rfl) (jhm_ta hb (by decide) rfl e11) ?_
    refine ey_aload_n (cd_356 rfl) f0 ?_
    refine ey_getf_r (cd_356 rfl) mt_356 rfl rfl rfl (jhm_gr (q := 145) hb rfl) ?_
    refine ey_iload_n (cd_356 rfl) f1 ?_
    refine ey_iconst (cd_356 rfl) ?_
    obtain ⟨m12, e13, e⟩ := jbind e
    refine ey_iast (cd_356 rfl) (jhm_ta hb (by decide) rfl e13) ?_
    refine ey_aload_n (cd_356 rfl) f0 ?_
    refine ey_getf_r (cd_356 rfl) mt_356 rfl rfl rfl (jhm_gr (q := 146) hb rfl) ?_
    refine ey_iload_n (cd_356 rfl) f1 ?_
    refine ey_iconst (cd_356 rfl) ?_
    obtain ⟨m14, e15, e⟩ := jbind e
    refine ey_iast (cd_356 rfl) (jhm_ta hb (by decide) rfl e15) ?_
    refine ey_aload_n (cd_356 rfl) f0 ?_
    refine ey_getf_r (cd_356 rfl) mt_356 rfl rfl rfl (jhm_gr (q := 147) hb rfl) ?_
    refine ey_iload_n (cd_356 rfl) f1 ?_
    refine ey_iconst (cd_356 rfl) ?_
    obtain ⟨m16, e17, e⟩ := jbind e
    refine ey_zast (cd_356 rfl) (jhm_ta hb (by decide) rfl e17) ?_
    refine ey_aload_n (cd_356 rfl) f0 ?_
    refine ey_getf_r (cd_356 rfl) mt_356 rfl rfl rfl (jhm_gr (q := 148) hb rfl) ?_
    refine ey_iload_n (cd_356 rfl) f1 ?_
    refine ey_iconst (cd_356 rfl) ?_
    obtain ⟨m18, e19, e⟩ := jbind e
    refine ey_iast (cd_356 rfl) (jhm_ta hb (by decide) rfl e19) ?_
    refine ey_aload_n (cd_356 rfl) f0 ?_
    refine ey_getf_r (cd_356 rfl) mt_356 rfl rfl rfl (jhm_gr (q := 149) hb rfl) ?_
    refine ey_iload_n (cd_356 rfl) f1 ?_
    refine ey_iconst (cd_356 rfl) ?_
    obtain ⟨m20, e21, e⟩ := jbind e
    refine ey_iast (cd_356 rfl) (jhm_ta hb (by decide) rfl e21) ?_
    refine ey_aload_n (cd_356 rfl) f0 ?_
    refine ey_getf_r (cd_356 rfl) mt_356 rfl rfl rfl (jhm_gr (q := 150) hb rfl) ?_
    refine ey_iload_n (cd_356 rfl) f1 ?_
    refine ey_iconst (cd_356 rfl) ?_
    obtain ⟨m22, e23, e⟩ := jbind e
    refine ey_iast (cd_356 rfl) (jhm_ta hb (by decide) rfl e23) ?_
    cases e
    exact ey_retv (cd_356 rfl) mt_356 rfl
  · rw [if_neg q3] at e
    refine ey_yle (cd_356 rfl) rfl rfl q3 ?_
    cases e
    exact ey_retv (cd_356 rfl) mt_356 rfl
set_option maxRecDepth 100000 in
theorem ok_356 {L : Nat} {xs : Nat → Int32} {b : jH} (hb : 152 ≤ b.1) (h6 : b.1 ≤ 1000000) {p0 : Int} {p1 : Int} {p2 : Int} {p3 : Int} {m : jM} {o : jM} (e : jd_356 p0 p1 p2 p3 m = some o) : mm_Runs (mm_xt L xs) 3 356 ([jR (some 76), jI p0, jI p1, jI p2, jI p3].map jcv) (jaH (jhm b m)) (.inl (none, jaH (jhm b o))) := by
  refine ey_run0 _ mt_356 (jsl_s rfl) ?_
  unfold jd_356 at e
  refine ey_aload_n (cd_356 rfl) rfl ?_
  refine ey_iload_n (cd_356 rfl) rfl ?_
  refine ey_cs (s0 := [jI p0, jR (some 76)]) (s1 := [jR (some 76)]) (st' := [jI (jd_355 p0), jR (some 76)]) (cd_356 rfl) mt_356 mt_355 rfl (by decide) rfl rfl (jsml_s rfl) rfl (ok_355 ) ?_
  have K24 : ∀ lv : jL, lv 0 = some (jR (some 76)) → lv 1 = some (jI p0) → lv 2 = some (jI p1) → lv 3 = some (jI p2) → lv 4 = some (jI p3) → ey (mm_xt L xs) 2 356 50 lv [jI (if (jw (jd_355 p0)) = 0 then 1 else (if (jw (jd_311 p1 m)) = 0 then 1 else (if (jw (jd_204 (jw p2) 1 4000)) = 0 then 2 else (if (jw (jd_204 (jw p3) 0 4000)) = 0 then 2 else 0)))), jR (some 76)] (jhm b m) (.inl (none, jaH (jhm b o))) := by
    intro lv g0 g1 g2 g3 g4
    exact jk_356_b50 hb h6 e lv g0 g1 g2 g3 g4
  by_cases q25 : (jw (jd_355 p0)) = 0
  · refine ey_zeq (cd_356 rfl) rfl rfl q25 ?_
    refine ey_iconst (cd_356 rfl) ?_
    refine ey_goto (cd_356 rfl) rfl ?_
    exact ey_rs (s0 := [jI 1, jR (some 76)]) (s1 := [jI (if (jw (jd_355 p0)) = 0 then 1 else (if (jw (jd_311 p1 m)) = 0 then 1 else (if (jw (jd_204 (jw p2) 1 4000)) = 0 then 2 else (if (jw (jd_204 (jw p3) 0 4000)) = 0 then 2 else 0)))), jR (some 76)]) (by rw [show ((if (jw (jd_355 p0)) = 0 then 1 else (if (jw (jd_311 p1 m)) = 0 then 1 else (if (jw (jd_204 (jw p2) 1 4000)) = 0 then 2 else (if (jw (jd_204 (jw p3) 0 4000)) = 0 then 2 else 0)))) : Int) = 1 from (if_pos q25)]) (K24 (jlf (jla 0 [jR (some 76), jI p0, jI p1, jI p2, jI p3])) rfl rfl rfl rfl rfl)
  · refine ey_yeq (cd_356 rfl) rfl rfl q25 ?_
    refine ey_aload_n (cd_356 rfl) rfl ?_
    refine ey_iload_n (cd_356 rfl) rfl ?_
    refine ey_cv (s0 := [jI p1, jR (some 76), jR (some 76)]) (s1 := [jR (some 76)]) (st' := [jI (jd_311 p1 m), jR (some 76)]) (cd_356 rfl) mt_356 mt_311 rfl rfl rfl (jhm_is hb) rfl (jsml_s rfl) rfl (ok_311 hb h6 ) ?_
    by_cases q26 : (jw (jd_311 p1 m)) = 0
    · refine ey_yne (cd_356 rfl) rfl rfl (fun w => w q26) ?_
      refine ey_iconst (cd_356 rfl) ?_
      refine ey_goto (cd_356 rfl) rfl ?_
      exact ey_rs (s0 := [jI 1, jR (some 76)]) (s1 := [jI (if (jw (jd_355 p0)) = 0 then 1 else (if (jw (jd_311 p1 m)) = 0 then 1 else (if (jw (jd_204 (jw p2) 1 4000)) = 0 then 2 else (if (jw (jd_204 (jw p3) 0 4000)) = 0 then 2 else 0)))), jR (some 76)]) (by rw [show ((if (jw (jd_355 p0)) = 0 then 1 else (if (jw (jd_311 p1 m)) = 0 then 1 else (if (jw (jd_204 (jw p2) 1 4000)) = 0 then 2 else (if (jw (jd_204 (jw p3) 0 4000)) = 0 then 2 else 0)))) : Int) = 1 from ((if_neg q25).trans (if_pos q26))]) (K24 (jlf (jla 0 [jR (some 76), jI p0, jI p1, jI p2, jI p3])) rfl rfl rfl rfl rfl)
    · refine ey_zne (cd_356 rfl) rfl rfl q26 ?_
      refine ey_iload_n (cd_356 rfl) rfl ?_
      refine ey_i2l (cd_356 rfl) ?_
      refine ey_lconst1 (cd_356 rfl) ?_
      refine ey_ldc2 (z := 4000) (cd_356 rfl) mt_356 rfl (by decide) ?_
      refine ey_cs (s0 := [jJ 4000, jJ 1, jJ (jw p2), jR (some 76)]) (s1 := [jR (some 76)]) (st' := [jI (jd_204 (jw p2) 1 4000), jR (some 76)]) (cd_356 rfl) mt_356 mt_204 rfl (by decide) rfl rfl (jsml_s rfl) rfl (mm_Runs.up (d := 1) (by decide) (ok_204 )) ?_
      by_cases q27 : (jw (jd_204 (jw p2) 1 4000)) = 0
      · refine ey_zeq (cd_356 rfl) rfl rfl q27 ?_
        refine ey_iconst (cd_356 rfl) ?_
        refine ey_goto (cd_356 rfl) rfl ?_
        exact ey_rs (s0 := [jI 2, jR (some 76)]) (s1 := [jI (if (jw (jd_355 p0)) = 0 then 1 else (if (jw (jd_311 p1 m)) = 0 then 1 else (if (jw (jd_204 (jw p2) 1 4000)) = 0 then 2 else (if (jw (jd_204 (jw p3) 0 4000)) = 0 then 2 else 0)))), jR (some 76)]) (by rw [show ((if (jw (jd_355 p0)) = 0 then 1 else (if (jw (jd_311 p1 m)) = 0 then 1 else (if (jw (jd_204 (jw p2) 1 4000)) = 0 then 2 else (if (jw (jd_204 (jw p3) 0 4000)) = 0 then 2 else 0)))) : Int) = 2 from ((if_neg q25).trans ((if_neg q26).trans (if_pos q27)))]) (K24 (jlf (jla 0 [jR (some 76), jI p0, jI p1, jI p2, jI p3])) rfl rfl rfl rfl rfl)
      · refine ey_yeq (cd_356 rfl) rfl rfl q27 ?_
        refine ey_iload (cd_356 rfl) rfl ?_
        refine ey_i2l (cd_356 rfl) ?_
        refine ey_lconst0 (cd_356 rfl) ?_
        refine ey_ldc2 (z := 4000) (cd_356 rfl) mt_356 rfl (by decide) ?_
        refine ey_cs (s0 := [jJ 4000, jJ 0, jJ (jw p3), jR (some 76)]) (s1 := [jR (some 76)]) (st' := [jI (jd_204 (jw p3) 0 4000), jR (some 76)]) (cd_356 rfl) mt_356 mt_204 rfl (by decide) rfl rfl (jsml_s rfl) rfl (mm_Runs.up (d := 1) (by decide) (ok_204 )) ?_
        by_cases q28 : (jw (jd_204 (jw p3) 0 4000)) = 0
        · refine ey_yne (cd_356 rfl) rfl rfl (fun w => w q28) ?_
          refine ey_iconst (cd_356 rfl) ?_
          refine ey_goto (cd_356 rfl) rfl ?_
          exact ey_rs (s0 := [jI 2, jR (some 76)]) (s1 := [jI (if (jw (jd_355 p0)) = 0 then 1 else (if (jw (jd_311 p1 m)) = 0 then 1 else (if (jw (jd_204 (jw p2) 1 4000)) = 0 then 2 else (if (jw (jd_204 (jw p3) 0 4000)) = 0 then 2 else 0)))), jR (some 76)]) (by rw [show ((if (jw (jd_355 p0)) = 0 then 1 else (if (jw (jd_311 p1 m)) = 0 then 1 else (if (jw (jd_204 (jw p2) 1 4000)) = 0 then 2 else (if (jw (jd_204 (jw p3) 0 4000)) = 0 then 2 else 0)))) : Int) = 2 from ((if_neg q25).trans ((if_neg q26).trans ((if_neg q27).trans (if_pos q28))))]) (K24 (jlf (jla 0 [jR (some 76), jI p0, jI p1, jI p2, jI p3])) rfl rfl rfl rfl rfl)
        · refine ey_zne (cd_356 rfl) rfl rfl q28 ?_
          refine ey_iconst (cd_356 rfl) ?_
          exact ey_rs (s0 := [jI 0, jR (some 76)]) (s1 := [jI (if (jw (jd_355 p0)) = 0 then 1 else (if (jw (jd_311 p1 m)) = 0 then 1 else (if (jw (jd_204 (jw p2) 1 4000)) = 0 then 2 else (if (jw (jd_204 (jw p3) 0 4000)) = 0 then 2 else 0)))), jR (some 76)]) (by rw [show ((if (jw (jd_355 p0)) = 0 then 1 else (if (jw (jd_311 p1 m)) = 0 then 1 else (if (jw (jd_204 (jw p2) 1 4000)) = 0 then 2 else (if (jw (jd_204 (jw p3) 0 4000)) = 0 then 2 else 0)))) : Int) = 0 from ((if_neg q25).trans ((if_neg q26).trans ((if_neg q27).trans (if_neg q28))))]) (K24 (jlf (jla 0 [jR (some 76), jI p0, jI p1, jI p2, jI p3])) rfl rfl rfl rfl rfl)
theorem cd_357 {pc : Nat} {i : Instr × Nat} (h : mm_lk mm_c357 pc = some i) : mm_cd 357 pc = some i := h
theorem mt_357 : mm_MT 357 = (12, 2, some .boolean, 1, 0, []) := rfl
set_option maxRecDepth 100000 in
theorem jk_357_b27 {L : Nat} {xs : Nat → Int32} {b : jH} (hb : 152 ≤ b.1) (h6 : b.1 ≤ 1000000) {y0 : Int} {m : jM} {o : (Int × jM)} (e : jd_357_b27 y0 m = some o) : ∀ lv : jL, lv 0 = some (jR (some 76)) → ey (mm_xt L xs) 2 357 27 lv [jI y0, jR (some 76)] (jhm b m) (.inl (some (jcv (jI o.1)), jaH (jhm b o.2))) := by
  intro lv f0
  unfold jd_357_b27 at e
  obtain ⟨m2, e3, e⟩ := jbind e
  refine ey_putf_i (cd_357 rfl) mt_357 rfl rfl rfl (jhm_pi' (k := 0) hb e3) ?_
  refine ey_aload_n (cd_357 rfl) f0 ?_
  refine ey_getf_i (z := (m2 76 0)) (cd_357 rfl) mt_357 rfl rfl rfl (jhm_gi hb 0) ?_
  have K4 : ∀ lv : jL, ey (mm_xt L xs) 2 357 42 lv [jI (if (jw (m2 76 0)) ≤ 0 then 0 else 1)] (jhm b m2) (.inl (some (jcv (jI o.1)), jaH (jhm b o.2))) := by
    intro lv 
    cases e
    exact ey_retz (cd_357 rfl) mt_357 rfl (jbo_ite (Or.inl rfl) (Or.inr rfl))
  by_cases q5 : (jw (m2 76 0)) ≤ 0
  · refine ey_zle (cd_357 rfl) rfl rfl q5 ?_
    refine ey_iconst (cd_357 rfl) ?_
    exact ey_rs (s0 := [jI 0]) (s1 := [jI (if (jw (m2 76 0)) ≤ 0 then 0 else 1)]) (by rw [show ((if (jw (m2 76 0)) ≤ 0 then 0 else 1) : Int) = 0 from (if_pos q5)]) (K4 lv )
  · refine ey_yle (cd_357 rfl) rfl rfl q5 ?_
    refine ey_iconst (cd_357 rfl) ?_
    refine ey_goto (cd_357 rfl) rfl ?_
    exact ey_rs (s0 := [jI 1]) (s1 := [jI (if (jw (m2 76 0)) ≤ 0 then 0 else 1)]) (by rw [show ((if (jw (m2 76 0)) ≤ 0 then 0 else 1) : Int) = 1 from (if_neg q5)]) (K4 lv )
set_option maxRecDepth 100000 in
theorem ok_357 {L : Nat} {xs : Nat → Int32} {b : jH} (hb : 152 ≤ b.1) (h6 : b.1 ≤ 1000000) {p0 : Int} {m : jM} {o : (Int × jM)} (e : jd_357 p0 m = some o) : mm_Runs (mm_xt L xs) 3 357 ([jR (some 76), jI p0].map jcv) (jaH (jhm b m)) (.inl (some (jcv (jI o.1)), jaH (jhm b o.2))) := by
  refine ey_run0 _ mt_357 (jsl_s rfl) ?_
  unfold jd_357 at e
  refine ey_aload_n (cd_357 rfl) rfl ?_
  refine ey_iload_n (cd_357 rfl) rfl ?_
  refine ey_cs (s0 := [jI p0, jR (some 76)]) (s1 := [jR (some 76)]) (st' := [jI (jd_355 p0), jR (some 76)]) (cd_357 rfl) mt_357 mt_355 rfl (by decide) rfl rfl (jsml_s rfl) rfl (ok_355 ) ?_
  by_cases q1 : (jw (jd_355 p0)) = 0
  · rw [if_pos q1] at e
    refine ey_yne (cd_357 rfl) rfl rfl (fun w => w q1) ?_
    refine ey_iconst (cd_357 rfl) ?_
    refine ey_goto (cd_357 rfl) rfl ?_
    exact jk_357_b27 hb h6 e (jlf (jla 0 [jR (some 76), jI p0])) rfl
  · rw [if_neg q1] at e
    refine ey_zne (cd_357 rfl) rfl rfl q1 ?_
    refine ey_aload_n (cd_357 rfl) rfl ?_
    refine ey_getf_r (cd_357 rfl) mt_357 rfl rfl rfl (jhm_gr (q := 141) hb rfl) ?_
    refine ey_iload_n (cd_357 rfl) rfl ?_
    obtain ⟨v6, e7, e⟩ := jbind e
    refine ey_iald (cd_357 rfl) (jhm_ai hb h6 (by decide) rfl e7) ?_
    refine ey_iconst (cd_357 rfl) ?_
    have K8 : ∀ lv : jL, lv 0 = some (jR (some 76)) → ey (mm_xt L xs) 2 357 27 lv [jI (if (jw v6) = (-1) then 2 else 0), jR (some 76)] (jhm b m) (.inl (some (jcv (jI o.1)), jaH (jhm b o.2))) := by
      intro lv g0
      exact jk_357_b27 hb h6 e lv g0
    by_cases q9 : (jw v6) = (-1)
    · refine ey_nne (cd_357 rfl) rfl rfl (show jw (-1) = (-1) from by decide) (fun w => w q9) ?_
      refine ey_iconst (cd_357 rfl) ?_
      refine ey_goto (cd_357 rfl) rfl ?_
      exact ey_rs (s0 := [jI 2, jR (some 76)]) (s1 := [jI (if (jw v6) = (-1) then 2 else 0), jR (some 76)]) (by rw [show ((if (jw v6) = (-1) then 2 else 0) : Int) = 2 from (if_pos q9)]) (K8 (jlf (jla 0 [jR (some 76), jI p0])) rfl)
    · refine ey_cne (cd_357 rfl) rfl rfl (show jw (-1) = (-1) from by decide) q9 ?_
      refine ey_iconst (cd_357 rfl) ?_
      exact ey_rs (s0 := [jI 0, jR (some 76)]) (s1 := [jI (if (jw v6) = (-1) then 2 else 0), jR (some 76)]) (by rw [show ((if (jw v6) = (-1) then 2 else 0) : Int) = 0 from (if_neg q9)]) (K8 (jlf (jla 0 [jR (some 76), jI p0])) rfl)
theorem cd_358 {pc : Nat} {i : Instr × Nat} (h : mm_lk mm_c358 pc = some i) : mm_cd 358 pc = some i := h
theorem mt_358 : mm_MT 358 = (12, 4, some .int, 2, 0, []) := rfl
set_option maxRecDepth 100000 in
theorem jk_358_s2 {L : Nat} {xs : Nat → Int32} {b : jH} (hb : 152 ≤ b.1) (h6 : b.1 ≤ 1000000) {x1 : Int} {x3 : Int} {m : jM} {o : (Int ⊕ Int)} {r : mm_R} (e : jd_358_s2 x1 x3 m = some o) (K : jsm (fun s => (∀ lv : jL, lv 0 = some (jR (some 76)) → lv 1 = some (jI x1) → lv 3 = some (jI s) → ey (mm_xt L xs) 0 358 2 lv [] (jhm b m) r)) (fun x => (∀ lv : jL, lv 3 = some (jI x) → ey (mm_xt L xs) 0 358 22 lv [] (jhm b m) r)) o) : ∀ lv : jL, lv 0 = some (jR (some 76)) → lv 1 = some (jI x1) → lv 3 = some (jI x3) → ey (mm_xt L xs) 0 358 2 lv [] (jhm b m) r := by
  intro lv f0 f1 f3
  unfold jd_358_s2 at e
  refine ey_aload_n (cd_358 rfl) f0 ?_
  refine ey_getf_r (cd_358 rfl) mt_358 rfl rfl rfl (jhm_gr (q := 95) hb rfl) ?_
  refine ey_bipush (cd_358 rfl) (by decide) ?_
  refine ey_iload_n (cd_358 rfl) f1 ?_
  refine ey_imul (cd_358 rfl) ?_
  refine ey_iload_n (cd_358 rfl) f3 ?_
  refine ey_iadd (cd_358 rfl) ?_
  obtain ⟨v1, e2, e⟩ := jbind e
  refine ey_zald (cd_358 rfl) (jhm_az hb (by decide) rfl e2) ?_
  by_cases q3 : (jw v1) = 0
  · rw [if_pos q3] at e
    refine ey_yne (cd_358 rfl) rfl rfl (fun w => w q3) ?_
    refine ey_iinc (cd_358 rfl) mt_358 rfl f3 ?_
    refine ey_goto (cd_358 rfl) rfl ?_
    cases e
    exact K (jup lv 3 (jI (x3 + (-1)))) f0 f1 rfl
  · rw [if_neg q3] at e
    refine ey_zne (cd_358 rfl) rfl rfl q3 ?_
    cases e
    exact K lv f3
theorem jk_358_l2 {L : Nat} {xs : Nat → Int32} {b : jH} (hb : 152 ≤ b.1) (h6 : b.1 ≤ 1000000) {x1 : Int} {x3 : Int} {m : jM} {x : Int} {r : mm_R} (e : jd_358_l2 x1 x3 m = some x) (K : (∀ lv : jL, lv 3 = some (jI x) → ey (mm_xt L xs) 0 358 22 lv [] (jhm b m) r)) : ∀ lv : jL, lv 0 = some (jR (some 76)) → lv 1 = some (jI x1) → lv 3 = some (jI x3) → ey (mm_xt L xs) 0 358 2 lv [] (jhm b m) r := by
  unfold jd_358_l2 at e
  exact jlp_ok2 (P := fun s => ∀ lv : jL, lv 0 = some (jR (some 76)) → lv 1 = some (jI x1) → lv 3 = some (jI s) → ey (mm_xt L xs) 0 358 2 lv [] (jhm b m) r) (Q := fun x => (∀ lv : jL, lv 3 = some (jI x) → ey (mm_xt L xs) 0 358 22 lv [] (jhm b m) r)) (fun s q hq hk => jk_358_s2 hb h6 hq hk) jfu _ x e K
set_option maxRecDepth 100000 in
theorem ok_358 {L : Nat} {xs : Nat → Int32} {b : jH} (hb : 152 ≤ b.1) (h6 : b.1 ≤ 1000000) {p0 : Int} {p1 : Int} {m : jM} {o : Int} (e : jd_358 p0 p1 m = some o) : mm_Runs (mm_xt L xs) 1 358 ([jR (some 76), jI p0, jI p1].map jcv) (jaH (jhm b m)) (.inl (some (jcv (jI o)), jaH (jhm b m))) := by
  refine ey_run0 _ mt_358 (jsl_s rfl) ?_
  unfold jd_358 at e
  refine ey_iload_n (cd_358 rfl) rfl ?_
  refine ey_istore_n (cd_358 rfl) mt_358 rfl ?_
  obtain ⟨x4, e5, e⟩ := jbind e
  refine jk_358_l2 hb h6 e5 ?_ (jup (jlf (jla 0 [jR (some 76), jI p0, jI p1])) 3 (jI p1)) rfl rfl rfl
  intro lv g3
  refine ey_iload_n (cd_358 rfl) g3 ?_
  cases e
  exact ey_reti (cd_358 rfl) mt_358 rfl
theorem cd_359 {pc : Nat} {i : Instr × Nat} (h : mm_lk mm_c359 pc = some i) : mm_cd 359 pc = some i := h
theorem mt_359 : mm_MT 359 = (12, 6, some .int, 1, 0, []) := rfl
set_option maxRecDepth 100000 in
theorem jk_359_s219 {L : Nat} {xs : Nat → Int32} {b : jH} (hb : 152 ≤ b.1) (h6 : b.1 ≤ 1000000) {x1 : Int} {x4 : Int} {x5 : Int} {m : jM} {o : ((Int × jM) ⊕ jM)} {r : mm_R} (e : jd_359_s219 x1 x4 x5 m = some o) (K : jsm (fun s => (∀ lv : jL, lv 0 = some (jR (some 76)) → lv 1 = some (jI x1) → lv 4 = some (jI x4) → lv 5 = some (jI s.1) → ey (mm_xt L xs) 9 359 219 lv [] (jhm b s.2) r)) (fun x => (∀ lv : jL, lv 0 = some (jR (some 76)) → lv 1 = some (jI x1) → lv 4 = some (jI x4) → ey (mm_xt L xs) 9 359 258 lv [] (jhm b x) r)) o) : ∀ lv : jL, lv 0 = some (jR (some 76)) → lv 1 = some (jI x1) → lv 4 = some (jI x4) → lv 5 = some (jI x5) → ey (mm_xt L xs) 9 359 219 lv [] (jhm b m) r := by
  intro lv f0 f1 f4 f5
  unfold jd_359_s219 at e
  refine ey_iload (cd_359 rfl) f5 ?_
  refine ey_iload (cd_359 rfl) f4 ?_
  by_cases q51 : (jw x4) < (jw x5)
  · rw [if_pos q51] at e
    refine ey_cgt (cd_359 rfl) rfl rfl rfl q51 ?_
    cases e
    exact K lv f0 f1 f4
  · rw [if_neg q51] at e
    refine ey_ngt (cd_359 rfl) rfl rfl rfl q51 ?_
    refine ey_aload_n (cd_359 rfl) f0 ?_
    refine ey_iload (cd_359 rfl) f5 ?_
    refine ey_aload_n (cd_359 rfl) f0 ?_
    refine ey_getf_r (cd_359 rfl) mt_359 rfl rfl rfl (jhm_gr (q := 150) hb rfl) ?_
    refine ey_iload_n (cd_359 rfl) f1 ?_
    obtain ⟨v52, e53, e⟩ := jbind e
    refine ey_iald (cd_359 rfl) (jhm_ai hb h6 (by decide) rfl e53) ?_
    refine ey_iload (cd_359 rfl) f5 ?_
    refine ey_ishr (cd_359 rfl) ?_
    refine ey_iconst (cd_359 rfl) ?_
    refine ey_iand (cd_359 rfl) ?_
    refine ey_iconst (cd_359 rfl) ?_
    have K56 : ∀ lv : jL, lv 0 = some (jR (some 76)) → lv 1 = some (jI x1) → lv 4 = some (jI x4) → lv 5 = some (jI x5) → ey (mm_xt L xs) 9 359 249 lv [jI (if (jw (jand (jshr v52 x5) 1)) = 1 then 1 else 0), jI x5, jR (some 76)] (jhm b m) r := by
      intro lv g0 g1 g4 g5
      obtain ⟨m54, e55, e⟩ := jbind e
      refine ey_cv (s0 := [jI (if (jw (jand (jshr v52 x5) 1)) = 1 then 1 else 0), jI x5, jR (some 76)]) (s1 := []) (st' := []) (cd_359 rfl) mt_359 mt_278 rfl rfl rfl (jhm_is hb) rfl (jsml_s rfl) rfl (ok_278 hb h6 e55) ?_
      refine ey_iinc (cd_359 rfl) mt_359 rfl g5 ?_
      refine ey_goto (cd_359 rfl) rfl ?_
      cases e
      exact K (jup lv 5 (jI (x5 + 1))) g0 g1 (jup_pi (lv := lv) (j := 4) (v := jI (x5 + 1)) (z := x4) g4) rfl
    by_cases q57 : (jw (jand (jshr v52 x5) 1)) = 1
    · refine ey_nne (cd_359 rfl) rfl rfl (show jw 1 = 1 from by decide) (fun w => w q57) ?_
      refine ey_iconst (cd_359 rfl) ?_
      refine ey_goto (cd_359 rfl) rfl ?_
      exact ey_rs (s0 := [jI 1, jI x5, jR (some 76)]) (s1 := [jI (if (jw (jand (jshr v52 x5) 1)) = 1 then 1 else 0), jI x5, jR (some 76)]) (by rw [show ((if (jw (jand (jshr v52 x5) 1)) = 1 then 1 else 0) : Int) = 1 from (if_pos q57)]) (K56 lv f0 f1 f4 f5)
    · refine ey_cne (cd_359 rfl) rfl rfl (show jw 1 = 1 from by decide) q57 ?_
      refine ey_iconst (cd_359 rfl) ?_
      exact ey_rs (s0 := [jI 0, jI x5, jR (some 76)]) (s1 := [jI (if (jw (jand (jshr v52 x5) 1)) = 1 then 1 else 0), jI x5, jR (some 76)]) (by rw [show ((if (jw (jand (jshr v52 x5) 1)) = 1 then 1 else 0) : Int) = 0 from (if_neg q57)]) (K56 lv f0 f1 f4 f5)
theorem jk_359_l219 {L : Nat} {xs : Nat → Int32} {b : jH} (hb : 152 ≤ b.1) (h6 : b.1 ≤ 1000000) {x1 : Int} {x4 : Int} {x5 : Int} {m : jM} {x : jM} {r : mm_R} (e : jd_359_l219 x1 x4 x5 m = some x) (K : (∀ lv : jL, lv 0 = some (jR (some 76)) → lv 1 = some (jI x1) → lv 4 = some (jI x4) → ey (mm_xt L xs) 9 359 258 lv [] (jhm b x) r)) : ∀ lv : jL, lv 0 = some (jR (some 76)) → lv 1 = some (jI x1) → lv 4 = some (jI x4) → lv 5 = some (jI x5) → ey (mm_xt L xs) 9 359 219 lv [] (jhm b m) r := by
  unfold jd_359_l219 at e
  exact jlp_ok2 (P := fun s => ∀ lv : jL, lv 0 = some (jR (some 76)) → lv 1 = some (jI x1) → lv 4 = some (jI x4) → lv 5 = some (jI s.1) → ey (mm_xt L xs) 9 359 219 lv [] (jhm b s.2) r) (Q := fun x => (∀ lv : jL, lv 0 = some (jR (some 76)) → lv 1 = some (jI x1) → lv 4 = some (jI x4) → ey (mm_xt L xs) 9 359 258 lv [] (jhm b x) r)) (fun s q hq hk => jk_359_s219 hb h6 hq hk) jfu _ x e K
set_option maxRecDepth 100000 in
theorem jk_359_s261 {L : Nat} {xs : Nat → Int32} {b : jH} (hb : 152 ≤ b.1) (h6 : b.1 ≤ 1000000) {x1 : Int} {x4 : Int} {x5 : Int} {m : jM} {o : ((Int × jM) ⊕ jM)} {r : mm_R} (e : jd_359_s261 x1 x4 x5 m = some o) (K : jsm (fun s => (∀ lv : jL, lv 0 = some (jR (some 76)) → lv 1 = some (jI x1) → lv 4 = some (jI x4) → lv 5 = some (jI s.1) → ey (mm_xt L xs) 9 359 261 lv [] (jhm b s.2) r)) (fun x => (∀ lv : jL, lv 0 = some (jR (some 76)) → lv 1 = some (jI x1) → ey (mm_xt L xs) 9 359 302 lv [] (jhm b x) r)) o) : ∀ lv : jL, lv 0 = some (jR (some 76)) → lv 1 = some (jI x1) → lv 4 = some (jI x4) → lv 5 = some (jI x5) → ey (mm_xt L xs) 9 359 261 lv [] (jhm b m) r := by
  intro lv f0 f1 f4 f5
  unfold jd_359_s261 at e
  refine ey_iload (cd_359 rfl) f5 ?_
  refine ey_sipush (cd_359 rfl) (by decide) ?_
  by_cases q60 : 864 ≤ (jw x5)
  · rw [if_pos q60] at e
    refine ey_cge (cd_359 rfl) rfl rfl (show jw 864 = 864 from by decide) q60 ?_
    cases e
    exact K lv f0 f1
  · rw [if_neg q60] at e
    refine ey_nge (cd_359 rfl) rfl rfl (show jw 864 = 864 from by decide) q60 ?_
    refine ey_aload_n (cd_359 rfl) f0 ?_
    refine ey_getf_r (cd_359 rfl) mt_359 rfl rfl rfl (jhm_gr (q := 151) hb rfl) ?_
    refine ey_sipush (cd_359 rfl) (by decide) ?_
    refine ey_iload_n (cd_359 rfl) f1 ?_
    refine ey_imul (cd_359 rfl) ?_
    refine ey_iload (cd_359 rfl) f5 ?_
    refine ey_iadd (cd_359 rfl) ?_
    refine ey_aload_n (cd_359 rfl) f0 ?_
    refine ey_getf_r (cd_359 rfl) mt_359 rfl rfl rfl (jhm_gr (q := 109) hb rfl) ?_
    refine ey_sipush (cd_359 rfl) (by decide) ?_
    refine ey_iload (cd_359 rfl) f4 ?_
    refine ey_imul (cd_359 rfl) ?_
    refine ey_iload (cd_359 rfl) f5 ?_
    refine ey_iadd (cd_359 rfl) ?_
    obtain ⟨v61, e62, e⟩ := jbind e
    refine ey_iald (cd_359 rfl) (jhm_ai hb h6 (by decide) rfl e62) ?_
    obtain ⟨m63, e64, e⟩ := jbind e
    refine ey_iast (cd_359 rfl) (jhm_ta hb (by decide) rfl e64) ?_
    refine ey_iinc (cd_359 rfl) mt_359 rfl f5 ?_
    refine ey_goto (cd_359 rfl) rfl ?_
    cases e
    exact K (jup lv 5 (jI (x5 + 1))) f0 f1 (jup_pi (lv := lv) (j := 4) (v := jI (x5 + 1)) (z := x4) f4) rfl
theorem jk_359_l261 {L : Nat} {xs : Nat → Int32} {b : jH} (hb : 152 ≤ b.1) (h6 : b.1 ≤ 1000000) {x1 : Int} {x4 : Int} {x5 : Int} {m : jM} {x : jM} {r : mm_R} (e : jd_359_l261 x1 x4 x5 m = some x) (K : (∀ lv : jL, lv 0 = some (jR (some 76)) → lv 1 = some (jI x1) → ey (mm_xt L xs) 9 359 302 lv [] (jhm b x) r)) : ∀ lv : jL, lv 0 = some (jR (some 76)) → lv 1 = some (jI x1) → lv 4 = some (jI x4) → lv 5 = some (jI x5) → ey (mm_xt L xs) 9 359 261 lv [] (jhm b m) r := by
  unfold jd_359_l261 at e
  exact jlp_ok2 (P := fun s => ∀ lv : jL, lv 0 = some (jR (some 76)) → lv 1 = some (jI x1) → lv 4 = some (jI x4) → lv 5 = some (jI s.1) → ey (mm_xt L xs) 9 359 261 lv [] (jhm b s.2) r) (Q := fun x => (∀ lv : jL, lv 0 = some (jR (some 76)) → lv 1 = some (jI x1) → ey (mm_xt L xs) 9 359 302 lv [] (jhm b x) r)) (fun s q hq hk => jk_359_s261 hb h6 hq hk) jfu _ x e K
set_option maxRecDepth 100000 in
theorem jk_359_b111 {L : Nat} {xs : Nat → Int32} {b : jH} (hb : 152 ≤ b.1) (h6 : b.1 ≤ 1000000) {x1 : Int} {x2 : Int} {m : jM} {o : (Int × jM)} (e : jd_359_b111 x1 x2 m = some o) : ∀ lv : jL, lv 0 = some (jR (some 76)) → lv 1 = some (jI x1) → lv 2 = some (jI x2) → ey (mm_xt L xs) 9 359 111 lv [] (jhm b m) (.inl (some (jcv (jI o.1)), jaH (jhm b o.2))) := by
  intro lv f0 f1 f2
  unfold jd_359_b111 at e
  refine ey_aload_n (cd_359 rfl) f0 ?_
  refine ey_getf_r (cd_359 rfl) mt_359 rfl rfl rfl (jhm_gr (q := 146) hb rfl) ?_
  refine ey_iload_n (cd_359 rfl) f1 ?_
  obtain ⟨v26, e27, e⟩ := jbind e
  refine ey_iald (cd_359 rfl) (jhm_ai hb h6 (by decide) rfl e27) ?_
  refine ey_aload_n (cd_359 rfl) f0 ?_
  refine ey_getf_r (cd_359 rfl) mt_359 rfl rfl rfl (jhm_gr (q := 87) hb rfl) ?_
  refine ey_iload_n (cd_359 rfl) f2 ?_
  obtain ⟨v28, e29, e⟩ := jbind e
  refine ey_iald (cd_359 rfl) (jhm_ai hb h6 (by decide) rfl e29) ?_
  by_cases q30 : (jw v26) = (jw v28)
  · rw [if_pos q30] at e
    refine ey_nne (cd_359 rfl) rfl rfl rfl (fun w => w q30) ?_
    refine ey_bipush (cd_359 rfl) (by decide) ?_
    cases e
    exact ey_reti (cd_359 rfl) mt_359 rfl
  · rw [if_neg q30] at e
    refine ey_cne (cd_359 rfl) rfl rfl rfl q30 ?_
    refine ey_aload_n (cd_359 rfl) f0 ?_
    refine ey_getf_r (cd_359 rfl) mt_359 rfl rfl rfl (jhm_gr (q := 147) hb rfl) ?_
    refine ey_iload_n (cd_359 rfl) f1 ?_
    obtain ⟨v31, e32, e⟩ := jbind e
    refine ey_zald (cd_359 rfl) (jhm_az hb (by decide) rfl e32) ?_
    by_cases q33 : (jw v31) = 0
    · rw [if_pos q33] at e
      refine ey_yne (cd_359 rfl) rfl rfl (fun w => w q33) ?_
      refine ey_bipush (cd_359 rfl) (by decide) ?_
      cases e
      exact ey_reti (cd_359 rfl) mt_359 rfl
    · rw [if_neg q33] at e
      refine ey_zne (cd_359 rfl) rfl rfl q33 ?_
      refine ey_aload_n (cd_359 rfl) f0 ?_
      refine ey_iload_n (cd_359 rfl) f2 ?_
      refine ey_aload_n (cd_359 rfl) f0 ?_
      refine ey_getf_r (cd_359 rfl) mt_359 rfl rfl rfl (jhm_gr (q := 146) hb rfl) ?_
      refine ey_iload_n (cd_359 rfl) f1 ?_
      obtain ⟨v34, e35, e⟩ := jbind e
      refine ey_iald (cd_359 rfl) (jhm_ai hb h6 (by decide) rfl e35) ?_
      obtain ⟨v36, e37, e⟩ := jbind e
      refine ey_cv (s0 := [jI v34, jI x2, jR (some 76)]) (s1 := []) (st' := [jI v36]) (cd_359 rfl) mt_359 mt_318 rfl rfl rfl (jhm_is hb) rfl (jsml_s rfl) rfl (mm_Runs.up (d := 1) (by decide) (ok_318 hb h6 e37)) ?_
      refine ey_istore_n (cd_359 rfl) mt_359 rfl ?_
      refine ey_aload_n (cd_359 rfl) f0 ?_
      refine ey_getf_r (cd_359 rfl) mt_359 rfl rfl rfl (jhm_gr (q := 94) hb rfl) ?_
      refine ey_iload_n (cd_359 rfl) rfl ?_
      obtain ⟨v38, e39, e⟩ := jbind e
      refine ey_iald (cd_359 rfl) (jhm_ai hb h6 (by decide) rfl e39) ?_
      refine ey_iconst (cd_359 rfl) ?_
      refine ey_iadd (cd_359 rfl) ?_
      refine ey_aload_n (cd_359 rfl) f0 ?_
      refine ey_getf_r (cd_359 rfl) mt_359 rfl rfl rfl (jhm_gr (q := 93) hb rfl) ?_
      refine ey_iload_n (cd_359 rfl) rfl ?_
      obtain ⟨v40, e41, e⟩ := jbind e
      refine ey_iald (cd_359 rfl) (jhm_ai hb h6 (by decide) rfl e41) ?_
      refine ey_iadd (cd_359 rfl) ?_
      refine ey_aload_n (cd_359 rfl) f0 ?_
      refine ey_getf_r (cd_359 rfl) mt_359 rfl rfl rfl (jhm_gr (q := 144) hb rfl) ?_
      refine ey_iload_n (cd_359 rfl) f1 ?_
      obtain ⟨v42, e43, e⟩ := jbind e
      refine ey_iald (cd_359 rfl) (jhm_ai hb h6 (by decide) rfl e43) ?_
      by_cases q44 : (jw ((v38 + 5) + v40)) ≤ (jw v42)
      · rw [if_pos q44] at e
        refine ey_cle (cd_359 rfl) rfl rfl rfl q44 ?_
        refine ey_iload_n (cd_359 rfl) rfl ?_
        refine ey_bipush (cd_359 rfl) (by decide) ?_
        refine ey_iload_n (cd_359 rfl) (jup_pi (lv := lv) (j := 2) (v := jI v36) (z := x2) f2) ?_
        refine ey_imul (cd_359 rfl) ?_
        refine ey_isub (cd_359 rfl) ?_
        refine ey_istore (cd_359 rfl) mt_359 rfl ?_
        refine ey_aload_n (cd_359 rfl) f0 ?_
        refine ey_iload_n (cd_359 rfl) (jup_o rfl (jup_pi (lv := lv) (j := 2) (v := jI v36) (z := x2) f2)) ?_
        obtain ⟨m45, e46, e⟩ := jbind e
        refine ey_cv (s0 := [jI x2, jR (some 76)]) (s1 := []) (st' := []) (cd_359 rfl) mt_359 mt_309 rfl rfl rfl (jhm_is hb) rfl (jsml_s rfl) rfl (mm_Runs.up (d := 1) (by decide) (ok_309 hb h6 e46)) ?_
        refine ey_aload_n (cd_359 rfl) f0 ?_
        refine ey_aload_n (cd_359 rfl) f0 ?_
        refine ey_iload_n (cd_359 rfl) (jup_o rfl (jup_pi (lv := lv) (j := 2) (v := jI v36) (z := x2) f2)) ?_
        refine ey_iload (cd_359 rfl) rfl ?_
        obtain ⟨v47, e48, e⟩ := jbind e
        refine ey_cv (s0 := [jI (v36 - (12 * x2)), jI x2, jR (some 76), jR (some 76)]) (s1 := [jR (some 76)]) (st' := [jI v47, jR (some 76)]) (cd_359 rfl) mt_359 mt_358 rfl rfl rfl (jhm_is hb) rfl (jsml_s rfl) rfl (mm_Runs.up (d := 1) (by decide) (ok_358 hb h6 e48)) ?_
        obtain ⟨m49, e50, e⟩ := jbind e
        refine ey_putf_i (cd_359 rfl) mt_359 rfl rfl rfl (jhm_pi' (k := 36) hb e50) ?_
        refine ey_aload_n (cd_359 rfl) f0 ?_
        refine ey_getf_i (z := (m49 76 36)) (cd_359 rfl) mt_359 rfl rfl rfl (jhm_gi hb 36) ?_
        refine ey_istore (cd_359 rfl) mt_359 rfl ?_
        obtain ⟨x58, e59, e⟩ := jbind e
        refine jk_359_l219 hb h6 e59 ?_ (jup (jup (jup lv 3 (jI v36)) 4 (jI (v36 - (12 * x2)))) 5 (jI (m49 76 36))) f0 f1 (jup_pi (lv := (jup (jup lv 3 (jI v36)) 4 (jI (v36 - (12 * x2))))) (j := 4) (v := jI (m49 76 36)) (z := (v36 - (12 * x2))) rfl) rfl
        intro lv g0 g1 g4
        refine ey_iconst (cd_359 rfl) ?_
        refine ey_istore (cd_359 rfl) mt_359 rfl ?_
        obtain ⟨x65, e66, e⟩ := jbind e
        refine jk_359_l261 hb h6 e66 ?_ (jup lv 5 (jI 0)) g0 g1 (jup_pi (lv := lv) (j := 4) (v := jI 0) (z := (v36 - (12 * x2))) g4) rfl
        intro lv g0 g1
        refine ey_aload_n (cd_359 rfl) g0 ?_
        refine ey_getf_r (cd_359 rfl) mt_359 rfl rfl rfl (jhm_gr (q := 149) hb rfl) ?_
        refine ey_iload_n (cd_359 rfl) g1 ?_
        refine ey_aload_n (cd_359 rfl) g0 ?_
        refine ey_getf_r (cd_359 rfl) mt_359 rfl rfl rfl (jhm_gr (q := 146) hb rfl) ?_
        refine ey_iload_n (cd_359 rfl) g1 ?_
        obtain ⟨v67, e68, e⟩ := jbind e
        refine ey_iald (cd_359 rfl) (jhm_ai hb h6 (by decide) rfl e68) ?_
        obtain ⟨m69, e70, e⟩ := jbind e
        refine ey_iast (cd_359 rfl) (jhm_ta hb (by decide) rfl e70) ?_
        refine ey_aload_n (cd_359 rfl) g0 ?_
        refine ey_getf_r (cd_359 rfl) mt_359 rfl rfl rfl (jhm_gr (q := 146) hb rfl) ?_
        refine ey_iload_n (cd_359 rfl) g1 ?_
        refine ey_dup2 (cd_359 rfl) rfl rfl ?_
        obtain ⟨v71, e72, e⟩ := jbind e
        refine ey_iald (cd_359 rfl) (jhm_ai hb h6 (by decide) rfl e72) ?_
        refine ey_iconst (cd_359 rfl) ?_
        refine ey_iadd (cd_359 rfl) ?_
        obtain ⟨m73, e74, e⟩ := jbind e
        refine ey_iast (cd_359 rfl) (jhm_ta hb (by decide) rfl e74) ?_
        refine ey_aload_n (cd_359 rfl) g0 ?_
        refine ey_getf_r (cd_359 rfl) mt_359 rfl rfl rfl (jhm_gr (q := 149) hb rfl) ?_
        refine ey_iload_n (cd_359 rfl) g1 ?_
        obtain ⟨v75, e76, e⟩ := jbind e
        refine ey_iald (cd_359 rfl) (jhm_ai hb h6 (by decide) rfl e76) ?_
        cases e
        exact ey_reti (cd_359 rfl) mt_359 rfl
      · rw [if_neg q44] at e
        refine ey_nle (cd_359 rfl) rfl rfl rfl q44 ?_
        refine ey_aload_n (cd_359 rfl) f0 ?_
        refine ey_getf_r (cd_359 rfl) mt_359 rfl rfl rfl (jhm_gr (q := 148) hb rfl) ?_
        refine ey_iload_n (cd_359 rfl) f1 ?_
        refine ey_dup2 (cd_359 rfl) rfl rfl ?_
        obtain ⟨v77, e78, e⟩ := jbind e
        refine ey_iald (cd_359 rfl) (jhm_ai hb h6 (by decide) rfl e78) ?_
        refine ey_iconst (cd_359 rfl) ?_
        refine ey_iadd (cd_359 rfl) ?_
        obtain ⟨m79, e80, e⟩ := jbind e
        refine ey_iast (cd_359 rfl) (jhm_ta hb (by decide) rfl e80) ?_
        refine ey_iconst (cd_359 rfl) ?_
        cases e
        exact ey_reti (cd_359 rfl) mt_359 rfl
set_option maxRecDepth 100000 in
theorem jk_359_b104 {L : Nat} {xs : Nat → Int32} {b : jH} (hb : 152 ≤ b.1) (h6 : b.1 ≤ 1000000) {x1 : Int} {x2 : Int} {m : jM} {o : (Int × jM)} (e : jd_359_b104 x1 x2 m = some o) : ∀ lv : jL, lv 0 = some (jR (some 76)) → lv 1 = some (jI x1) → lv 2 = some (jI x2) → ey (mm_xt L xs) 9 359 104 lv [] (jhm b m) (.inl (some (jcv (jI o.1)), jaH (jhm b o.2))) := by
  intro lv f0 f1 f2
  unfold jd_359_b104 at e
  refine ey_aload_n (cd_359 rfl) f0 ?_
  refine ey_getf_r (cd_359 rfl) mt_359 rfl rfl rfl (jhm_gr (q := 147) hb rfl) ?_
  refine ey_iload_n (cd_359 rfl) f1 ?_
  refine ey_iconst (cd_359 rfl) ?_
  obtain ⟨m24, e25, e⟩ := jbind e
  refine ey_zast (cd_359 rfl) (jhm_ta hb (by decide) rfl e25) ?_
  exact jk_359_b111 hb h6 e lv f0 f1 f2
set_option maxRecDepth 100000 in
theorem jk_359_b66 {L : Nat} {xs : Nat → Int32} {b : jH} (hb : 152 ≤ b.1) (h6 : b.1 ≤ 1000000) {x1 : Int} {x2 : Int} {y0 : Int} {y1 : Int} {m : jM} {o : (Int × jM)} (e : jd_359_b66 x1 x2 y0 y1 m = some o) : ∀ lv : jL, lv 0 = some (jR (some 76)) → lv 1 = some (jI x1) → lv 2 = some (jI x2) → ey (mm_xt L xs) 9 359 66 lv [jI y0, jI y1, jR (some 144)] (jhm b m) (.inl (some (jcv (jI o.1)), jaH (jhm b o.2))) := by
  intro lv f0 f1 f2
  unfold jd_359_b66 at e
  obtain ⟨m15, e16, e⟩ := jbind e
  refine ey_iast (cd_359 rfl) (jhm_ta hb (by decide) rfl e16) ?_
  refine ey_aload_n (cd_359 rfl) f0 ?_
  refine ey_getf_r (cd_359 rfl) mt_359 rfl rfl rfl (jhm_gr (q := 144) hb rfl) ?_
  refine ey_iload_n (cd_359 rfl) f1 ?_
  obtain ⟨v17, e18, e⟩ := jbind e
  refine ey_iald (cd_359 rfl) (jhm_ai hb h6 (by decide) rfl e18) ?_
  refine ey_aload_n (cd_359 rfl) f0 ?_
  refine ey_getf_r (cd_359 rfl) mt_359 rfl rfl rfl (jhm_gr (q := 145) hb rfl) ?_
  refine ey_iload_n (cd_359 rfl) f1 ?_
  obtain ⟨v19, e20, e⟩ := jbind e
  refine ey_iald (cd_359 rfl) (jhm_ai hb h6 (by decide) rfl e20) ?_
  refine ey_isub (cd_359 rfl) ?_
  refine ey_aload_n (cd_359 rfl) f0 ?_
  refine ey_getf_r (cd_359 rfl) mt_359 rfl rfl rfl (jhm_gr (q := 143) hb rfl) ?_
  refine ey_iload_n (cd_359 rfl) f1 ?_
  obtain ⟨v21, e22, e⟩ := jbind e
  refine ey_iald (cd_359 rfl) (jhm_ai hb h6 (by decide) rfl e22) ?_
  by_cases q23 : (jw v21) ≤ (jw (v17 - v19))
  · rw [if_pos q23] at e
    refine ey_cge (cd_359 rfl) rfl rfl rfl q23 ?_
    exact jk_359_b104 hb h6 e lv f0 f1 f2
  · rw [if_neg q23] at e
    refine ey_nge (cd_359 rfl) rfl rfl rfl q23 ?_
    refine ey_aload_n (cd_359 rfl) f0 ?_
    refine ey_getf_r (cd_359 rfl) mt_359 rfl rfl rfl (jhm_gr (q := 144) hb rfl) ?_
    refine ey_iload_n (cd_359 rfl) f1 ?_
    obtain ⟨v81, e82, e⟩ := jbind e
    refine ey_iald (cd_359 rfl) (jhm_ai hb h6 (by decide) rfl e82) ?_
    refine ey_aload_n (cd_359 rfl) f0 ?_
    refine ey_getf_r (cd_359 rfl) mt_359 rfl rfl rfl (jhm_gr (q := 88) hb rfl) ?_
    refine ey_iload_n (cd_359 rfl) f2 ?_
    obtain ⟨v83, e84, e⟩ := jbind e
    refine ey_iald (cd_359 rfl) (jhm_ai hb h6 (by decide) rfl e84) ?_
    by_cases q85 : (jw v81) = (jw v83)
    · rw [if_pos q85] at e
      refine ey_nne (cd_359 rfl) rfl rfl rfl (fun w => w q85) ?_
      exact jk_359_b104 hb h6 e lv f0 f1 f2
    · rw [if_neg q85] at e
      refine ey_cne (cd_359 rfl) rfl rfl rfl q85 ?_
      exact jk_359_b111 hb h6 e lv f0 f1 f2
set_option maxRecDepth 100000 in
theorem ok_359 {L : Nat} {xs : Nat → Int32} {b : jH} (hb : 152 ≤ b.1) (h6 : b.1 ≤ 1000000) {p0 : Int} {m : jM} {o : (Int × jM)} (e : jd_359 p0 m = some o) : mm_Runs (mm_xt L xs) 10 359 ([jR (some 76), jI p0].map jcv) (jaH (jhm b m)) (.inl (some (jcv (jI o.1)), jaH (jhm b o.2))) := by
  refine ey_run0 _ mt_359 (jsl_s rfl) ?_
  unfold jd_359 at e
  refine ey_aload_n (cd_359 rfl) rfl ?_
  refine ey_iload_n (cd_359 rfl) rfl ?_
  obtain ⟨q1, e2, e⟩ := jbind e
  refine ey_cv (s0 := [jI p0, jR (some 76)]) (s1 := []) (st' := [jI q1.1]) (cd_359 rfl) mt_359 mt_357 rfl rfl rfl (jhm_is hb) rfl (jsml_s rfl) rfl (mm_Runs.up (d := 3) (by decide) (ok_357 hb h6 e2)) ?_
  by_cases q3 : (jw q1.1) = 0
  · rw [if_pos q3] at e
    refine ey_zeq (cd_359 rfl) rfl rfl q3 ?_
    refine ey_aload_n (cd_359 rfl) rfl ?_
    refine ey_getf_r (cd_359 rfl) mt_359 rfl rfl rfl (jhm_gr (q := 141) hb rfl) ?_
    refine ey_iload_n (cd_359 rfl) rfl ?_
    obtain ⟨v4, e5, e⟩ := jbind e
    refine ey_iald (cd_359 rfl) (jhm_ai hb h6 (by decide) rfl e5) ?_
    refine ey_istore_n (cd_359 rfl) mt_359 rfl ?_
    refine ey_aload_n (cd_359 rfl) rfl ?_
    refine ey_getf_r (cd_359 rfl) mt_359 rfl rfl rfl (jhm_gr (q := 144) hb rfl) ?_
    refine ey_iload_n (cd_359 rfl) (jup_pi (lv := (jlf (jla 0 [jR (some 76), jI p0]))) (j := 1) (v := jI v4) (z := p0) rfl) ?_
    refine ey_aload_n (cd_359 rfl) rfl ?_
    refine ey_getf_r (cd_359 rfl) mt_359 rfl rfl rfl (jhm_gr (q := 144) hb rfl) ?_
    refine ey_iload_n (cd_359 rfl) (jup_pi (lv := (jlf (jla 0 [jR (some 76), jI p0]))) (j := 1) (v := jI v4) (z := p0) rfl) ?_
    obtain ⟨v6, e7, e⟩ := jbind e
    refine ey_iald (cd_359 rfl) (jhm_ai hb h6 (by decide) rfl e7) ?_
    refine ey_aload_n (cd_359 rfl) rfl ?_
    refine ey_getf_r (cd_359 rfl) mt_359 rfl rfl rfl (jhm_gr (q := 142) hb rfl) ?_
    refine ey_iload_n (cd_359 rfl) (jup_pi (lv := (jlf (jla 0 [jR (some 76), jI p0]))) (j := 1) (v := jI v4) (z := p0) rfl) ?_
    obtain ⟨v8, e9, e⟩ := jbind e
    refine ey_iald (cd_359 rfl) (jhm_ai hb h6 (by decide) rfl e9) ?_
    refine ey_iadd (cd_359 rfl) ?_
    refine ey_aload_n (cd_359 rfl) rfl ?_
    refine ey_getf_r (cd_359 rfl) mt_359 rfl rfl rfl (jhm_gr (q := 88) hb rfl) ?_
    refine ey_iload_n (cd_359 rfl) rfl ?_
    obtain ⟨v10, e11, e⟩ := jbind e
    refine ey_iald (cd_359 rfl) (jhm_ai hb h6 (by decide) rfl e11) ?_
    by_cases q12 : (jw v10) ≤ (jw (v6 + v8))
    · rw [if_pos q12] at e
      refine ey_cge (cd_359 rfl) rfl rfl rfl q12 ?_
      refine ey_aload_n (cd_359 rfl) rfl ?_
      refine ey_getf_r (cd_359 rfl) mt_359 rfl rfl rfl (jhm_gr (q := 88) hb rfl) ?_
      refine ey_iload_n (cd_359 rfl) rfl ?_
      obtain ⟨v13, e14, e⟩ := jbind e
      refine ey_iald (cd_359 rfl) (jhm_ai hb h6 (by decide) rfl e14) ?_
      exact jk_359_b66 hb h6 e (jup (jlf (jla 0 [jR (some 76), jI p0])) 2 (jI v4)) rfl (jup_pi (lv := (jlf (jla 0 [jR (some 76), jI p0]))) (j := 1) (v := jI v4) (z := p0) rfl) rfl
    · rw [if_neg q12] at e
      refine ey_nge (cd_359 rfl) rfl rfl rfl q12 ?_
      refine ey_aload_n (cd_359 rfl) rfl ?_
      refine ey_getf_r (cd_359 rfl) mt_359 rfl rfl rfl (jhm_gr (q := 144) hb rfl) ?_
      refine ey_iload_n (cd_359 rfl) (jup_pi (lv := (jlf (jla 0 [jR (some 76), jI p0]))) (j := 1) (v := jI v4) (z := p0) rfl) ?_
      obtain ⟨v86, e87, e⟩ := jbind e
      refine ey_iald (cd_359 rfl) (jhm_ai hb h6 (by decide) rfl e87) ?_
      refine ey_aload_n (cd_359 rfl) rfl ?_
      refine ey_getf_r (cd_359 rfl) mt_359 rfl rfl rfl (jhm_gr (q := 142) hb rfl) ?_
      refine ey_iload_n (cd_359 rfl) (jup_pi (lv := (jlf (jla 0 [jR (some 76), jI p0]))) (j := 1) (v := jI v4) (z := p0) rfl) ?_
      obtain ⟨v88, e89, e⟩ := jbind e
      refine ey_iald (cd_359 rfl) (jhm_ai hb h6 (by decide) rfl e89) ?_
      refine ey_iadd (cd_359 rfl) ?_
      refine ey_goto (cd_359 rfl) rfl ?_
      exact jk_359_b66 hb h6 e (jup (jlf (jla 0 [jR (some 76), jI p0])) 2 (jI v4)) rfl (jup_pi (lv := (jlf (jla 0 [jR (some 76), jI p0]))) (j := 1) (v := jI v4) (z := p0) rfl) rfl
  · rw [if_neg q3] at e
    refine ey_yeq (cd_359 rfl) rfl rfl q3 ?_
    refine ey_iconst (cd_359 rfl) ?_
    cases e
    exact ey_reti (cd_359 rfl) mt_359 rfl
