theorem cd_309 {pc : Nat} {i : Instr × Nat} (h : mm_lk mm_c309 pc = some i) : mm_cd 309 pc = some i := h
theorem mt_309 : mm_MT 309 = (12, 3, none, 1, 0, []) := rfl
set_option maxRecDepth 100000 in
theorem jk_309_s57 {L : Nat} {xs : Nat → Int32} {b : jH} (hb : 152 ≤ b.1) (h6 : b.1 ≤ 1000000) {x1 : Int} {x2 : Int} {m : jM} {o : ((Int × jM) ⊕ jM)} {r : mm_R} (e : jd_309_s57 x1 x2 m = some o) (K : jsm (fun s => (∀ lv : jL, lv 0 = some (jR (some 76)) → lv 1 = some (jI x1) → lv 2 = some (jI s.1) → ey (mm_xt L xs) 0 309 57 lv [] (jhm b s.2) r)) (fun x => (∀ lv : jL, lv 0 = some (jR (some 76)) → lv 1 = some (jI x1) → ey (mm_xt L xs) 0 309 89 lv [] (jhm b x) r)) o) : ∀ lv : jL, lv 0 = some (jR (some 76)) → lv 1 = some (jI x1) → lv 2 = some (jI x2) → ey (mm_xt L xs) 0 309 57 lv [] (jhm b m) r := by
  intro lv f0 f1 f2
  unfold jd_309_s57 at e
  refine ey_iload_n (cd_309 rfl) f2 ?_
  refine ey_aload_n (cd_309 rfl) f0 ?_
  refine ey_getf_i (z := (m 76 47)) (cd_309 rfl) mt_309 rfl rfl rfl (jhm_gi hb 47) ?_
  by_cases q23 : (jw (m 76 47)) ≤ (jw x2)
  · rw [if_pos q23] at e
    refine ey_cge (cd_309 rfl) rfl rfl rfl q23 ?_
    cases e
    exact K lv f0 f1
  · rw [if_neg q23] at e
    refine ey_nge (cd_309 rfl) rfl rfl rfl q23 ?_
    refine ey_aload_n (cd_309 rfl) f0 ?_
    refine ey_getf_r (cd_309 rfl) mt_309 rfl rfl rfl (jhm_gr (q := 112) hb rfl) ?_
    refine ey_iload_n (cd_309 rfl) f2 ?_
    refine ey_aload_n (cd_309 rfl) f0 ?_
    refine ey_getf_r (cd_309 rfl) mt_309 rfl rfl rfl (jhm_gr (q := 89) hb rfl) ?_
    refine ey_sipush (cd_309 rfl) (by decide) ?_
    refine ey_iload_n (cd_309 rfl) f1 ?_
    refine ey_imul (cd_309 rfl) ?_
    refine ey_iload_n (cd_309 rfl) f2 ?_
    refine ey_iadd (cd_309 rfl) ?_
    obtain ⟨v24, e25, e⟩ := jbind e
    refine ey_bald (cd_309 rfl) (jhm_ab hb (by decide) rfl e25) ?_
    obtain ⟨m26, e27, e⟩ := jbind e
    refine ey_bast (cd_309 rfl) (jhm_ta hb (by decide) rfl e27) ?_
    refine ey_iinc (cd_309 rfl) mt_309 rfl f2 ?_
    refine ey_goto (cd_309 rfl) rfl ?_
    cases e
    exact K (jup lv 2 (jI (x2 + 1))) f0 (jup_pi (lv := lv) (j := 1) (v := jI (x2 + 1)) (z := x1) f1) rfl
theorem jk_309_l57 {L : Nat} {xs : Nat → Int32} {b : jH} (hb : 152 ≤ b.1) (h6 : b.1 ≤ 1000000) {x1 : Int} {x2 : Int} {m : jM} {x : jM} {r : mm_R} (e : jd_309_l57 x1 x2 m = some x) (K : (∀ lv : jL, lv 0 = some (jR (some 76)) → lv 1 = some (jI x1) → ey (mm_xt L xs) 0 309 89 lv [] (jhm b x) r)) : ∀ lv : jL, lv 0 = some (jR (some 76)) → lv 1 = some (jI x1) → lv 2 = some (jI x2) → ey (mm_xt L xs) 0 309 57 lv [] (jhm b m) r := by
  unfold jd_309_l57 at e
  exact jlp_ok2 (P := fun s => ∀ lv : jL, lv 0 = some (jR (some 76)) → lv 1 = some (jI x1) → lv 2 = some (jI s.1) → ey (mm_xt L xs) 0 309 57 lv [] (jhm b s.2) r) (Q := fun x => (∀ lv : jL, lv 0 = some (jR (some 76)) → lv 1 = some (jI x1) → ey (mm_xt L xs) 0 309 89 lv [] (jhm b x) r)) (fun s q hq hk => jk_309_s57 hb h6 hq hk) jfu _ x e K
set_option maxRecDepth 100000 in
theorem jk_309_s91 {L : Nat} {xs : Nat → Int32} {b : jH} (hb : 152 ≤ b.1) (h6 : b.1 ≤ 1000000) {x1 : Int} {x2 : Int} {m : jM} {o : ((Int × jM) ⊕ jM)} {r : mm_R} (e : jd_309_s91 x1 x2 m = some o) (K : jsm (fun s => (∀ lv : jL, lv 0 = some (jR (some 76)) → lv 1 = some (jI x1) → lv 2 = some (jI s.1) → ey (mm_xt L xs) 0 309 91 lv [] (jhm b s.2) r)) (fun x => (∀ lv : jL, ey (mm_xt L xs) 0 309 190 lv [] (jhm b x) r)) o) : ∀ lv : jL, lv 0 = some (jR (some 76)) → lv 1 = some (jI x1) → lv 2 = some (jI x2) → ey (mm_xt L xs) 0 309 91 lv [] (jhm b m) r := by
  intro lv f0 f1 f2
  unfold jd_309_s91 at e
  refine ey_iload_n (cd_309 rfl) f2 ?_
  refine ey_aload_n (cd_309 rfl) f0 ?_
  refine ey_getf_i (z := (m 76 35)) (cd_309 rfl) mt_309 rfl rfl rfl (jhm_gi hb 35) ?_
  by_cases q30 : (jw (m 76 35)) ≤ (jw x2)
  · rw [if_pos q30] at e
    refine ey_cge (cd_309 rfl) rfl rfl rfl q30 ?_
    cases e
    exact K lv 
  · rw [if_neg q30] at e
    refine ey_nge (cd_309 rfl) rfl rfl rfl q30 ?_
    refine ey_aload_n (cd_309 rfl) f0 ?_
    refine ey_getf_r (cd_309 rfl) mt_309 rfl rfl rfl (jhm_gr (q := 102) hb rfl) ?_
    refine ey_iload_n (cd_309 rfl) f2 ?_
    refine ey_aload_n (cd_309 rfl) f0 ?_
    refine ey_getf_r (cd_309 rfl) mt_309 rfl rfl rfl (jhm_gr (q := 90) hb rfl) ?_
    refine ey_bipush (cd_309 rfl) (by decide) ?_
    refine ey_iload_n (cd_309 rfl) f1 ?_
    refine ey_imul (cd_309 rfl) ?_
    refine ey_iload_n (cd_309 rfl) f2 ?_
    refine ey_iadd (cd_309 rfl) ?_
    obtain ⟨v31, e32, e⟩ := jbind e
    refine ey_iald (cd_309 rfl) (jhm_ai hb h6 (by decide) rfl e32) ?_
    obtain ⟨m33, e34, e⟩ := jbind e
    refine ey_iast (cd_309 rfl) (jhm_ta hb (by decide) rfl e34) ?_
    refine ey_aload_n (cd_309 rfl) f0 ?_
    refine ey_getf_r (cd_309 rfl) mt_309 rfl rfl rfl (jhm_gr (q := 103) hb rfl) ?_
    refine ey_iload_n (cd_309 rfl) f2 ?_
    refine ey_aload_n (cd_309 rfl) f0 ?_
    refine ey_getf_r (cd_309 rfl) mt_309 rfl rfl rfl (jhm_gr (q := 91) hb rfl) ?_
    refine ey_bipush (cd_309 rfl) (by decide) ?_
    refine ey_iload_n (cd_309 rfl) f1 ?_
    refine ey_imul (cd_309 rfl) ?_
    refine ey_iload_n (cd_309 rfl) f2 ?_
    refine ey_iadd (cd_309 rfl) ?_
    obtain ⟨v35, e36, e⟩ := jbind e
    refine ey_iald (cd_309 rfl) (jhm_ai hb h6 (by decide) rfl e36) ?_
    obtain ⟨m37, e38, e⟩ := jbind e
    refine ey_iast (cd_309 rfl) (jhm_ta hb (by decide) rfl e38) ?_
    refine ey_aload_n (cd_309 rfl) f0 ?_
    refine ey_getf_r (cd_309 rfl) mt_309 rfl rfl rfl (jhm_gr (q := 104) hb rfl) ?_
    refine ey_iload_n (cd_309 rfl) f2 ?_
    refine ey_aload_n (cd_309 rfl) f0 ?_
    refine ey_getf_r (cd_309 rfl) mt_309 rfl rfl rfl (jhm_gr (q := 92) hb rfl) ?_
    refine ey_bipush (cd_309 rfl) (by decide) ?_
    refine ey_iload_n (cd_309 rfl) f1 ?_
    refine ey_imul (cd_309 rfl) ?_
    refine ey_iload_n (cd_309 rfl) f2 ?_
    refine ey_iadd (cd_309 rfl) ?_
    obtain ⟨v39, e40, e⟩ := jbind e
    refine ey_iald (cd_309 rfl) (jhm_ai hb h6 (by decide) rfl e40) ?_
    obtain ⟨m41, e42, e⟩ := jbind e
    refine ey_iast (cd_309 rfl) (jhm_ta hb (by decide) rfl e42) ?_
    refine ey_aload_n (cd_309 rfl) f0 ?_
    refine ey_getf_r (cd_309 rfl) mt_309 rfl rfl rfl (jhm_gr (q := 105) hb rfl) ?_
    refine ey_iload_n (cd_309 rfl) f2 ?_
    refine ey_aload_n (cd_309 rfl) f0 ?_
    refine ey_getf_r (cd_309 rfl) mt_309 rfl rfl rfl (jhm_gr (q := 93) hb rfl) ?_
    refine ey_bipush (cd_309 rfl) (by decide) ?_
    refine ey_iload_n (cd_309 rfl) f1 ?_
    refine ey_imul (cd_309 rfl) ?_
    refine ey_iload_n (cd_309 rfl) f2 ?_
    refine ey_iadd (cd_309 rfl) ?_
    obtain ⟨v43, e44, e⟩ := jbind e
    refine ey_iald (cd_309 rfl) (jhm_ai hb h6 (by decide) rfl e44) ?_
    obtain ⟨m45, e46, e⟩ := jbind e
    refine ey_iast (cd_309 rfl) (jhm_ta hb (by decide) rfl e46) ?_
    refine ey_aload_n (cd_309 rfl) f0 ?_
    refine ey_getf_r (cd_309 rfl) mt_309 rfl rfl rfl (jhm_gr (q := 106) hb rfl) ?_
    refine ey_iload_n (cd_309 rfl) f2 ?_
    refine ey_aload_n (cd_309 rfl) f0 ?_
    refine ey_getf_r (cd_309 rfl) mt_309 rfl rfl rfl (jhm_gr (q := 94) hb rfl) ?_
    refine ey_bipush (cd_309 rfl) (by decide) ?_
    refine ey_iload_n (cd_309 rfl) f1 ?_
    refine ey_imul (cd_309 rfl) ?_
    refine ey_iload_n (cd_309 rfl) f2 ?_
    refine ey_iadd (cd_309 rfl) ?_
    obtain ⟨v47, e48, e⟩ := jbind e
    refine ey_iald (cd_309 rfl) (jhm_ai hb h6 (by decide) rfl e48) ?_
    obtain ⟨m49, e50, e⟩ := jbind e
    refine ey_iast (cd_309 rfl) (jhm_ta hb (by decide) rfl e50) ?_
    refine ey_iinc (cd_309 rfl) mt_309 rfl f2 ?_
    refine ey_goto (cd_309 rfl) rfl ?_
    cases e
    exact K (jup lv 2 (jI (x2 + 1))) f0 (jup_pi (lv := lv) (j := 1) (v := jI (x2 + 1)) (z := x1) f1) rfl
theorem jk_309_l91 {L : Nat} {xs : Nat → Int32} {b : jH} (hb : 152 ≤ b.1) (h6 : b.1 ≤ 1000000) {x1 : Int} {x2 : Int} {m : jM} {x : jM} {r : mm_R} (e : jd_309_l91 x1 x2 m = some x) (K : (∀ lv : jL, ey (mm_xt L xs) 0 309 190 lv [] (jhm b x) r)) : ∀ lv : jL, lv 0 = some (jR (some 76)) → lv 1 = some (jI x1) → lv 2 = some (jI x2) → ey (mm_xt L xs) 0 309 91 lv [] (jhm b m) r := by
  unfold jd_309_l91 at e
  exact jlp_ok2 (P := fun s => ∀ lv : jL, lv 0 = some (jR (some 76)) → lv 1 = some (jI x1) → lv 2 = some (jI s.1) → ey (mm_xt L xs) 0 309 91 lv [] (jhm b s.2) r) (Q := fun x => (∀ lv : jL, ey (mm_xt L xs) 0 309 190 lv [] (jhm b x) r)) (fun s q hq hk => jk_309_s91 hb h6 hq hk) jfu _ x e K
set_option maxRecDepth 100000 in
theorem ok_309 {L : Nat} {xs : Nat → Int32} {b : jH} (hb : 152 ≤ b.1) (h6 : b.1 ≤ 1000000) {p0 : Int} {m : jM} {o : jM} (e : jd_309 p0 m = some o) : mm_Runs (mm_xt L xs) 1 309 ([jR (some 76), jI p0].map jcv) (jaH (jhm b m)) (.inl (none, jaH (jhm b o))) := by
  refine ey_run0 _ mt_309 (jsl_s rfl) ?_
  unfold jd_309 at e
  refine ey_aload_n (cd_309 rfl) rfl ?_
  refine ey_aload_n (cd_309 rfl) rfl ?_
  refine ey_getf_r (cd_309 rfl) mt_309 rfl rfl rfl (jhm_gr (q := 83) hb rfl) ?_
  refine ey_iload_n (cd_309 rfl) rfl ?_
  obtain ⟨v1, e2, e⟩ := jbind e
  refine ey_iald (cd_309 rfl) (jhm_ai hb h6 (by decide) rfl e2) ?_
  obtain ⟨m3, e4, e⟩ := jbind e
  refine ey_putf_i (cd_309 rfl) mt_309 rfl rfl rfl (jhm_pi' (k := 32) hb e4) ?_
  refine ey_aload_n (cd_309 rfl) rfl ?_
  refine ey_aload_n (cd_309 rfl) rfl ?_
  refine ey_getf_r (cd_309 rfl) mt_309 rfl rfl rfl (jhm_gr (q := 84) hb rfl) ?_
  refine ey_iload_n (cd_309 rfl) rfl ?_
  obtain ⟨v5, e6, e⟩ := jbind e
  refine ey_iald (cd_309 rfl) (jhm_ai hb h6 (by decide) rfl e6) ?_
  obtain ⟨m7, e8, e⟩ := jbind e
  refine ey_putf_i (cd_309 rfl) mt_309 rfl rfl rfl (jhm_pi' (k := 33) hb e8) ?_
  refine ey_aload_n (cd_309 rfl) rfl ?_
  refine ey_aload_n (cd_309 rfl) rfl ?_
  refine ey_getf_r (cd_309 rfl) mt_309 rfl rfl rfl (jhm_gr (q := 85) hb rfl) ?_
  refine ey_iload_n (cd_309 rfl) rfl ?_
  obtain ⟨v9, e10, e⟩ := jbind e
  refine ey_iald (cd_309 rfl) (jhm_ai hb h6 (by decide) rfl e10) ?_
  obtain ⟨m11, e12, e⟩ := jbind e
  refine ey_putf_i (cd_309 rfl) mt_309 rfl rfl rfl (jhm_pi' (k := 34) hb e12) ?_
  refine ey_aload_n (cd_309 rfl) rfl ?_
  refine ey_aload_n (cd_309 rfl) rfl ?_
  refine ey_getf_r (cd_309 rfl) mt_309 rfl rfl rfl (jhm_gr (q := 87) hb rfl) ?_
  refine ey_iload_n (cd_309 rfl) rfl ?_
  obtain ⟨v13, e14, e⟩ := jbind e
  refine ey_iald (cd_309 rfl) (jhm_ai hb h6 (by decide) rfl e14) ?_
  obtain ⟨m15, e16, e⟩ := jbind e
  refine ey_putf_i (cd_309 rfl) mt_309 rfl rfl rfl (jhm_pi' (k := 35) hb e16) ?_
  refine ey_aload_n (cd_309 rfl) rfl ?_
  refine ey_iconst (cd_309 rfl) ?_
  obtain ⟨m17, e18, e⟩ := jbind e
  refine ey_putf_i (cd_309 rfl) mt_309 rfl rfl rfl (jhm_pi' (k := 36) hb e18) ?_
  refine ey_aload_n (cd_309 rfl) rfl ?_
  refine ey_aload_n (cd_309 rfl) rfl ?_
  refine ey_getf_r (cd_309 rfl) mt_309 rfl rfl rfl (jhm_gr (q := 88) hb rfl) ?_
  refine ey_iload_n (cd_309 rfl) rfl ?_
  obtain ⟨v19, e20, e⟩ := jbind e
  refine ey_iald (cd_309 rfl) (jhm_ai hb h6 (by decide) rfl e20) ?_
  obtain ⟨m21, e22, e⟩ := jbind e
  refine ey_putf_i (cd_309 rfl) mt_309 rfl rfl rfl (jhm_pi' (k := 47) hb e22) ?_
  refine ey_iconst (cd_309 rfl) ?_
  refine ey_istore_n (cd_309 rfl) mt_309 rfl ?_
  obtain ⟨x28, e29, e⟩ := jbind e
  refine jk_309_l57 hb h6 e29 ?_ (jup (jlf (jla 0 [jR (some 76), jI p0])) 2 (jI 0)) rfl (jup_pi (lv := (jlf (jla 0 [jR (some 76), jI p0]))) (j := 1) (v := jI 0) (z := p0) rfl) rfl
  intro lv g0 g1
  refine ey_iconst (cd_309 rfl) ?_
  refine ey_istore_n (cd_309 rfl) mt_309 rfl ?_
  obtain ⟨x51, e52, e⟩ := jbind e
  refine jk_309_l91 hb h6 e52 ?_ (jup lv 2 (jI 0)) g0 (jup_pi (lv := lv) (j := 1) (v := jI 0) (z := p0) g1) rfl
  intro lv 
  cases e
  exact ey_retv (cd_309 rfl) mt_309 rfl
theorem cd_310 {pc : Nat} {i : Instr × Nat} (h : mm_lk mm_c310 pc = some i) : mm_cd 310 pc = some i := h
theorem mt_310 : mm_MT 310 = (12, 2, some .int, 0, 0, []) := rfl
set_option maxRecDepth 100000 in
theorem jk_310_s37 {L : Nat} {xs : Nat → Int32} {b : jH} (hb : 152 ≤ b.1) (h6 : b.1 ≤ 1000000) {x1 : Int} {m : jM} {o : ((Int × jM) ⊕ jM)} {r : mm_R} (e : jd_310_s37 x1 m = some o) (K : jsm (fun s => (∀ lv : jL, lv 0 = some (jR (some 76)) → lv 1 = some (jI s.1) → ey (mm_xt L xs) 10 310 37 lv [] (jhm b s.2) r)) (fun x => (∀ lv : jL, lv 0 = some (jR (some 76)) → ey (mm_xt L xs) 10 310 64 lv [] (jhm b x) r)) o) : ∀ lv : jL, lv 0 = some (jR (some 76)) → lv 1 = some (jI x1) → ey (mm_xt L xs) 10 310 37 lv [] (jhm b m) r := by
  intro lv f0 f1
  unfold jd_310_s37 at e
  refine ey_iload_n (cd_310 rfl) f1 ?_
  refine ey_aload_n (cd_310 rfl) f0 ?_
  refine ey_getf_i (z := (m 76 5)) (cd_310 rfl) mt_310 rfl rfl rfl (jhm_gi hb 5) ?_
  by_cases q6 : (jw (m 76 5)) ≤ (jw x1)
  · rw [if_pos q6] at e
    refine ey_cge (cd_310 rfl) rfl rfl rfl q6 ?_
    cases e
    exact K lv f0
  · rw [if_neg q6] at e
    refine ey_nge (cd_310 rfl) rfl rfl rfl q6 ?_
    refine ey_aload_n (cd_310 rfl) f0 ?_
    refine ey_getf_r (cd_310 rfl) mt_310 rfl rfl rfl (jhm_gr (q := 112) hb rfl) ?_
    refine ey_iload_n (cd_310 rfl) f1 ?_
    refine ey_aload_n (cd_310 rfl) f0 ?_
    refine ey_getf_r (cd_310 rfl) mt_310 rfl rfl rfl (jhm_gr (q := 80) hb rfl) ?_
    refine ey_iload_n (cd_310 rfl) f1 ?_
    obtain ⟨v7, e8, e⟩ := jbind e
    refine ey_iald (cd_310 rfl) (jhm_ai hb h6 (by decide) rfl e8) ?_
    refine ey_i2b (cd_310 rfl) ?_
    obtain ⟨m9, e10, e⟩ := jbind e
    refine ey_bast (cd_310 rfl) (jhm_ta hb (by decide) rfl e10) ?_
    refine ey_iinc (cd_310 rfl) mt_310 rfl f1 ?_
    refine ey_goto (cd_310 rfl) rfl ?_
    cases e
    exact K (jup lv 1 (jI (x1 + 1))) (jup_pr (lv := lv) (j := 0) (v := jI (x1 + 1)) (z := (some 76)) f0) rfl
theorem jk_310_l37 {L : Nat} {xs : Nat → Int32} {b : jH} (hb : 152 ≤ b.1) (h6 : b.1 ≤ 1000000) {x1 : Int} {m : jM} {x : jM} {r : mm_R} (e : jd_310_l37 x1 m = some x) (K : (∀ lv : jL, lv 0 = some (jR (some 76)) → ey (mm_xt L xs) 10 310 64 lv [] (jhm b x) r)) : ∀ lv : jL, lv 0 = some (jR (some 76)) → lv 1 = some (jI x1) → ey (mm_xt L xs) 10 310 37 lv [] (jhm b m) r := by
  unfold jd_310_l37 at e
  exact jlp_ok2 (P := fun s => ∀ lv : jL, lv 0 = some (jR (some 76)) → lv 1 = some (jI s.1) → ey (mm_xt L xs) 10 310 37 lv [] (jhm b s.2) r) (Q := fun x => (∀ lv : jL, lv 0 = some (jR (some 76)) → ey (mm_xt L xs) 10 310 64 lv [] (jhm b x) r)) (fun s q hq hk => jk_310_s37 hb h6 hq hk) jfu _ x e K
set_option maxRecDepth 100000 in
theorem jk_310_b89 {L : Nat} {xs : Nat → Int32} {b : jH} (hb : 152 ≤ b.1) (h6 : b.1 ≤ 1000000) {y0 : Int} {m : jM} {o : (Int × jM)} (e : jd_310_b89 y0 m = some o) : ∀ lv : jL, ey (mm_xt L xs) 10 310 89 lv [jI y0] (jhm b m) (.inl (some (jcv (jI o.1)), jaH (jhm b o.2))) := by
  intro lv 
  unfold jd_310_b89 at e
  cases e
  exact ey_reti (cd_310 rfl) mt_310 rfl
set_option maxRecDepth 100000 in
theorem ok_310 {L : Nat} {xs : Nat → Int32} {b : jH} (hb : 152 ≤ b.1) (h6 : b.1 ≤ 1000000)  {m : jM} {o : (Int × jM)} (e : jd_310  m = some o) : mm_Runs (mm_xt L xs) 11 310 ([jR (some 76)].map jcv) (jaH (jhm b m)) (.inl (some (jcv (jI o.1)), jaH (jhm b o.2))) := by
  refine ey_run0 _ mt_310 (jsl_s rfl) ?_
  unfold jd_310 at e
  refine ey_aload_n (cd_310 rfl) rfl ?_
  refine ey_aload_n (cd_310 rfl) rfl ?_
  refine ey_getf_i (z := (m 76 12)) (cd_310 rfl) mt_310 rfl rfl rfl (jhm_gi hb 12) ?_
  refine ey_bipush (cd_310 rfl) (by decide) ?_
  have K20 : ∀ lv : jL, lv 0 = some (jR (some 76)) → ey (mm_xt L xs) 10 310 15 lv [jI (if (jw (m 76 12)) = 8 then 1 else 0), jR (some 76)] (jhm b m) (.inl (some (jcv (jI o.1)), jaH (jhm b o.2))) := by
    intro lv g0
    obtain ⟨m1, e2, e⟩ := jbind e
    refine ey_putf_i (cd_310 rfl) mt_310 rfl rfl rfl (jhm_pi' (k := 0) hb e2) ?_
    refine ey_aload_n (cd_310 rfl) g0 ?_
    refine ey_getf_i (z := (m1 76 0)) (cd_310 rfl) mt_310 rfl rfl rfl (jhm_gi hb 0) ?_
    by_cases q3 : (jw (m1 76 0)) ≤ 0
    · rw [if_pos q3] at e
      refine ey_zle (cd_310 rfl) rfl rfl q3 ?_
      refine ey_aload_n (cd_310 rfl) g0 ?_
      refine ey_aload_n (cd_310 rfl) g0 ?_
      refine ey_getf_i (z := (m1 76 5)) (cd_310 rfl) mt_310 rfl rfl rfl (jhm_gi hb 5) ?_
      obtain ⟨m4, e5, e⟩ := jbind e
      refine ey_putf_i (cd_310 rfl) mt_310 rfl rfl rfl (jhm_pi' (k := 47) hb e5) ?_
      refine ey_iconst (cd_310 rfl) ?_
      refine ey_istore_n (cd_310 rfl) mt_310 rfl ?_
      obtain ⟨x11, e12, e⟩ := jbind e
      refine jk_310_l37 hb h6 e12 ?_ (jup lv 1 (jI 0)) (jup_pr (lv := lv) (j := 0) (v := jI 0) (z := (some 76)) g0) rfl
      intro lv g0
      refine ey_aload_n (cd_310 rfl) g0 ?_
      refine ey_iconst (cd_310 rfl) ?_
      obtain ⟨m13, e14, e⟩ := jbind e
      refine ey_putf_i (cd_310 rfl) mt_310 rfl rfl rfl (jhm_pi' (k := 5) hb e14) ?_
      refine ey_aload_n (cd_310 rfl) g0 ?_
      obtain ⟨q15, e16, e⟩ := jbind e
      refine ey_cv (s0 := [jR (some 76)]) (s1 := []) (st' := [jI q15.1]) (cd_310 rfl) mt_310 mt_301 rfl rfl rfl (jhm_is hb) rfl (jsml_s rfl) rfl (mm_Runs.up (d := 5) (by decide) (ok_301 hb h6 e16)) ?_
      refine ey_istore_n (cd_310 rfl) mt_310 rfl ?_
      refine ey_iload_n (cd_310 rfl) rfl ?_
      refine ey_iconst (cd_310 rfl) ?_
      by_cases q17 : (jw q15.1) = (-1)
      · rw [if_pos q17] at e
        refine ey_nne (cd_310 rfl) rfl rfl (show jw (-1) = (-1) from by decide) (fun w => w q17) ?_
        refine ey_aload_n (cd_310 rfl) (jup_pr (lv := lv) (j := 0) (v := jI q15.1) (z := (some 76)) g0) ?_
        obtain ⟨q18, e19, e⟩ := jbind e
        refine ey_cv (s0 := [jR (some 76)]) (s1 := []) (st' := [jI q18.1]) (cd_310 rfl) mt_310 mt_308 rfl rfl rfl (jhm_is hb) rfl (jsml_s rfl) rfl (ok_308 hb h6 e19) ?_
        refine ey_goto (cd_310 rfl) rfl ?_
        exact jk_310_b89 hb h6 e (jup lv 1 (jI q15.1)) 
      · rw [if_neg q17] at e
        refine ey_cne (cd_310 rfl) rfl rfl (show jw (-1) = (-1) from by decide) q17 ?_
        refine ey_iconst (cd_310 rfl) ?_
        refine ey_iload_n (cd_310 rfl) rfl ?_
        refine ey_isub (cd_310 rfl) ?_
        exact jk_310_b89 hb h6 e (jup lv 1 (jI q15.1)) 
    · rw [if_neg q3] at e
      refine ey_yle (cd_310 rfl) rfl rfl q3 ?_
      refine ey_iconst (cd_310 rfl) ?_
      cases e
      exact ey_reti (cd_310 rfl) mt_310 rfl
  by_cases q21 : (jw (m 76 12)) = 8
  · refine ey_nne (cd_310 rfl) rfl rfl (show jw 8 = 8 from by decide) (fun w => w q21) ?_
    refine ey_iconst (cd_310 rfl) ?_
    refine ey_goto (cd_310 rfl) rfl ?_
    exact ey_rs (s0 := [jI 1, jR (some 76)]) (s1 := [jI (if (jw (m 76 12)) = 8 then 1 else 0), jR (some 76)]) (by rw [show ((if (jw (m 76 12)) = 8 then 1 else 0) : Int) = 1 from (if_pos q21)]) (K20 (jlf (jla 0 [jR (some 76)])) rfl)
  · refine ey_cne (cd_310 rfl) rfl rfl (show jw 8 = 8 from by decide) q21 ?_
    refine ey_iconst (cd_310 rfl) ?_
    exact ey_rs (s0 := [jI 0, jR (some 76)]) (s1 := [jI (if (jw (m 76 12)) = 8 then 1 else 0), jR (some 76)]) (by rw [show ((if (jw (m 76 12)) = 8 then 1 else 0) : Int) = 0 from (if_neg q21)]) (K20 (jlf (jla 0 [jR (some 76)])) rfl)
theorem cd_311 {pc : Nat} {i : Instr × Nat} (h : mm_lk mm_c311 pc = some i) : mm_cd 311 pc = some i := h
theorem mt_311 : mm_MT 311 = (12, 2, some .boolean, 1, 0, []) := rfl
theorem bo_311 {p0 : Int} {m : jM} : jd_311 p0 m = 0 ∨ jd_311 p0 m = 1 := by
  unfold jd_311
  exact bo_204
set_option maxRecDepth 100000 in
theorem ok_311 {L : Nat} {xs : Nat → Int32} {b : jH} (hb : 152 ≤ b.1) (h6 : b.1 ≤ 1000000) {p0 : Int} {m : jM}  : mm_Runs (mm_xt L xs) 2 311 ([jR (some 76), jI p0].map jcv) (jaH (jhm b m)) (.inl (some (jcv (jI (jd_311 p0 m))), jaH (jhm b m))) := by
  refine ey_run0 _ mt_311 (jsl_s rfl) ?_
  refine ey_iload_n (cd_311 rfl) rfl ?_
  refine ey_i2l (cd_311 rfl) ?_
  refine ey_lconst0 (cd_311 rfl) ?_
  refine ey_aload_n (cd_311 rfl) rfl ?_
  refine ey_getf_i (z := (m 76 12)) (cd_311 rfl) mt_311 rfl rfl rfl (jhm_gi hb 12) ?_
  refine ey_iconst (cd_311 rfl) ?_
  refine ey_isub (cd_311 rfl) ?_
  refine ey_i2l (cd_311 rfl) ?_
  refine ey_cs (s0 := [jJ (jw ((m 76 12) - 1)), jJ 0, jJ (jw p0)]) (s1 := []) (st' := [jI (jd_204 (jw p0) 0 (jw ((m 76 12) - 1)))]) (cd_311 rfl) mt_311 mt_204 rfl (by decide) rfl rfl (jsml_s rfl) rfl (ok_204 ) ?_
  rw [show (jd_311 p0 m) = (jd_204 (jw p0) 0 (jw ((m 76 12) - 1))) from rfl]
  exact ey_retz (cd_311 rfl) mt_311 rfl bo_204
theorem cd_312 {pc : Nat} {i : Instr × Nat} (h : mm_lk mm_c312 pc = some i) : mm_cd 312 pc = some i := h
theorem mt_312 : mm_MT 312 = (12, 3, some .int, 1, 0, []) := rfl
set_option maxRecDepth 100000 in
theorem jk_312_s52 {L : Nat} {xs : Nat → Int32} {b : jH} (hb : 152 ≤ b.1) (h6 : b.1 ≤ 1000000) {x1 : Int} {x2 : Int} {m : jM} {o : ((Int × jM) ⊕ jM)} {r : mm_R} (e : jd_312_s52 x1 x2 m = some o) (K : jsm (fun s => (∀ lv : jL, lv 0 = some (jR (some 76)) → lv 1 = some (jI x1) → lv 2 = some (jI s.1) → ey (mm_xt L xs) 2 312 52 lv [] (jhm b s.2) r)) (fun x => (∀ lv : jL, lv 0 = some (jR (some 76)) → ey (mm_xt L xs) 2 312 88 lv [] (jhm b x) r)) o) : ∀ lv : jL, lv 0 = some (jR (some 76)) → lv 1 = some (jI x1) → lv 2 = some (jI x2) → ey (mm_xt L xs) 2 312 52 lv [] (jhm b m) r := by
  intro lv f0 f1 f2
  unfold jd_312_s52 at e
  refine ey_iload_n (cd_312 rfl) f2 ?_
  refine ey_aload_n (cd_312 rfl) f0 ?_
  refine ey_getf_i (z := (m 76 5)) (cd_312 rfl) mt_312 rfl rfl rfl (jhm_gi hb 5) ?_
  by_cases q11 : (jw (m 76 5)) ≤ (jw x2)
  · rw [if_pos q11] at e
    refine ey_cge (cd_312 rfl) rfl rfl rfl q11 ?_
    cases e
    exact K lv f0
  · rw [if_neg q11] at e
    refine ey_nge (cd_312 rfl) rfl rfl rfl q11 ?_
    refine ey_aload_n (cd_312 rfl) f0 ?_
    refine ey_getf_r (cd_312 rfl) mt_312 rfl rfl rfl (jhm_gr (q := 80) hb rfl) ?_
    refine ey_iload_n (cd_312 rfl) f2 ?_
    refine ey_aload_n (cd_312 rfl) f0 ?_
    refine ey_getf_r (cd_312 rfl) mt_312 rfl rfl rfl (jhm_gr (q := 89) hb rfl) ?_
    refine ey_sipush (cd_312 rfl) (by decide) ?_
    refine ey_iload_n (cd_312 rfl) f1 ?_
    refine ey_imul (cd_312 rfl) ?_
    refine ey_iload_n (cd_312 rfl) f2 ?_
    refine ey_iadd (cd_312 rfl) ?_
    obtain ⟨v12, e13, e⟩ := jbind e
    refine ey_bald (cd_312 rfl) (jhm_ab hb (by decide) rfl e13) ?_
    refine ey_sipush (cd_312 rfl) (by decide) ?_
    refine ey_iand (cd_312 rfl) ?_
    obtain ⟨m14, e15, e⟩ := jbind e
    refine ey_iast (cd_312 rfl) (jhm_ta hb (by decide) rfl e15) ?_
    refine ey_iinc (cd_312 rfl) mt_312 rfl f2 ?_
    refine ey_goto (cd_312 rfl) rfl ?_
    cases e
    exact K (jup lv 2 (jI (x2 + 1))) f0 (jup_pi (lv := lv) (j := 1) (v := jI (x2 + 1)) (z := x1) f1) rfl
theorem jk_312_l52 {L : Nat} {xs : Nat → Int32} {b : jH} (hb : 152 ≤ b.1) (h6 : b.1 ≤ 1000000) {x1 : Int} {x2 : Int} {m : jM} {x : jM} {r : mm_R} (e : jd_312_l52 x1 x2 m = some x) (K : (∀ lv : jL, lv 0 = some (jR (some 76)) → ey (mm_xt L xs) 2 312 88 lv [] (jhm b x) r)) : ∀ lv : jL, lv 0 = some (jR (some 76)) → lv 1 = some (jI x1) → lv 2 = some (jI x2) → ey (mm_xt L xs) 2 312 52 lv [] (jhm b m) r := by
  unfold jd_312_l52 at e
  exact jlp_ok2 (P := fun s => ∀ lv : jL, lv 0 = some (jR (some 76)) → lv 1 = some (jI x1) → lv 2 = some (jI s.1) → ey (mm_xt L xs) 2 312 52 lv [] (jhm b s.2) r) (Q := fun x => (∀ lv : jL, lv 0 = some (jR (some 76)) → ey (mm_xt L xs) 2 312 88 lv [] (jhm b x) r)) (fun s q hq hk => jk_312_s52 hb h6 hq hk) jfu _ x e K
set_option maxRecDepth 100000 in
theorem ok_312 {L : Nat} {xs : Nat → Int32} {b : jH} (hb : 152 ≤ b.1) (h6 : b.1 ≤ 1000000) {p0 : Int} {m : jM} {o : (Int × jM)} (e : jd_312 p0 m = some o) : mm_Runs (mm_xt L xs) 3 312 ([jR (some 76), jI p0].map jcv) (jaH (jhm b m)) (.inl (some (jcv (jI o.1)), jaH (jhm b o.2))) := by
  refine ey_run0 _ mt_312 (jsl_s rfl) ?_
  unfold jd_312 at e
  refine ey_aload_n (cd_312 rfl) rfl ?_
  refine ey_aload_n (cd_312 rfl) rfl ?_
  refine ey_iload_n (cd_312 rfl) rfl ?_
  refine ey_cv (s0 := [jI p0, jR (some 76), jR (some 76)]) (s1 := [jR (some 76)]) (st' := [jI (jd_311 p0 m), jR (some 76)]) (cd_312 rfl) mt_312 mt_311 rfl rfl rfl (jhm_is hb) rfl (jsml_s rfl) rfl (ok_311 hb h6 ) ?_
  have K18 : ∀ lv : jL, lv 0 = some (jR (some 76)) → lv 1 = some (jI p0) → ey (mm_xt L xs) 2 312 14 lv [jI (if (jw (jd_311 p0 m)) = 0 then 1 else 0), jR (some 76)] (jhm b m) (.inl (some (jcv (jI o.1)), jaH (jhm b o.2))) := by
    intro lv g0 g1
    obtain ⟨m1, e2, e⟩ := jbind e
    refine ey_putf_i (cd_312 rfl) mt_312 rfl rfl rfl (jhm_pi' (k := 0) hb e2) ?_
    refine ey_aload_n (cd_312 rfl) g0 ?_
    refine ey_getf_i (z := (m1 76 0)) (cd_312 rfl) mt_312 rfl rfl rfl (jhm_gi hb 0) ?_
    by_cases q3 : (jw (m1 76 0)) ≤ 0
    · rw [if_pos q3] at e
      refine ey_zle (cd_312 rfl) rfl rfl q3 ?_
      refine ey_aload_n (cd_312 rfl) g0 ?_
      refine ey_getf_r (cd_312 rfl) mt_312 rfl rfl rfl (jhm_gr (q := 88) hb rfl) ?_
      refine ey_iload_n (cd_312 rfl) g1 ?_
      obtain ⟨v4, e5, e⟩ := jbind e
      refine ey_iald (cd_312 rfl) (jhm_ai hb h6 (by decide) rfl e5) ?_
      refine ey_sipush (cd_312 rfl) (by decide) ?_
      by_cases q6 : (jw v4) ≤ 4000
      · rw [if_pos q6] at e
        refine ey_cle (cd_312 rfl) rfl rfl (show jw 4000 = 4000 from by decide) q6 ?_
        refine ey_aload_n (cd_312 rfl) g0 ?_
        refine ey_aload_n (cd_312 rfl) g0 ?_
        refine ey_getf_r (cd_312 rfl) mt_312 rfl rfl rfl (jhm_gr (q := 88) hb rfl) ?_
        refine ey_iload_n (cd_312 rfl) g1 ?_
        obtain ⟨v7, e8, e⟩ := jbind e
        refine ey_iald (cd_312 rfl) (jhm_ai hb h6 (by decide) rfl e8) ?_
        obtain ⟨m9, e10, e⟩ := jbind e
        refine ey_putf_i (cd_312 rfl) mt_312 rfl rfl rfl (jhm_pi' (k := 5) hb e10) ?_
        refine ey_iconst (cd_312 rfl) ?_
        refine ey_istore_n (cd_312 rfl) mt_312 rfl ?_
        obtain ⟨x16, e17, e⟩ := jbind e
        refine jk_312_l52 hb h6 e17 ?_ (jup lv 2 (jI 0)) g0 (jup_pi (lv := lv) (j := 1) (v := jI 0) (z := p0) g1) rfl
        intro lv g0
        refine ey_aload_n (cd_312 rfl) g0 ?_
        refine ey_getf_i (z := (x16 76 5)) (cd_312 rfl) mt_312 rfl rfl rfl (jhm_gi hb 5) ?_
        cases e
        exact ey_reti (cd_312 rfl) mt_312 rfl
      · rw [if_neg q6] at e
        refine ey_nle (cd_312 rfl) rfl rfl (show jw 4000 = 4000 from by decide) q6 ?_
        refine ey_iconst (cd_312 rfl) ?_
        cases e
        exact ey_reti (cd_312 rfl) mt_312 rfl
    · rw [if_neg q3] at e
      refine ey_yle (cd_312 rfl) rfl rfl q3 ?_
      refine ey_iconst (cd_312 rfl) ?_
      cases e
      exact ey_reti (cd_312 rfl) mt_312 rfl
  by_cases q19 : (jw (jd_311 p0 m)) = 0
  · refine ey_zeq (cd_312 rfl) rfl rfl q19 ?_
    refine ey_iconst (cd_312 rfl) ?_
    exact ey_rs (s0 := [jI 1, jR (some 76)]) (s1 := [jI (if (jw (jd_311 p0 m)) = 0 then 1 else 0), jR (some 76)]) (by rw [show ((if (jw (jd_311 p0 m)) = 0 then 1 else 0) : Int) = 1 from (if_pos q19)]) (K18 (jlf (jla 0 [jR (some 76), jI p0])) rfl rfl)
  · refine ey_yeq (cd_312 rfl) rfl rfl q19 ?_
    refine ey_iconst (cd_312 rfl) ?_
    refine ey_goto (cd_312 rfl) rfl ?_
    exact ey_rs (s0 := [jI 0, jR (some 76)]) (s1 := [jI (if (jw (jd_311 p0 m)) = 0 then 1 else 0), jR (some 76)]) (by rw [show ((if (jw (jd_311 p0 m)) = 0 then 1 else 0) : Int) = 0 from (if_neg q19)]) (K18 (jlf (jla 0 [jR (some 76), jI p0])) rfl rfl)
theorem cd_313 {pc : Nat} {i : Instr × Nat} (h : mm_lk mm_c313 pc = some i) : mm_cd 313 pc = some i := h
theorem mt_313 : mm_MT 313 = (12, 6, some .int, 2, 0, []) := rfl
set_option maxRecDepth 100000 in
theorem jk_313_s50 {L : Nat} {xs : Nat → Int32} {b : jH} (hb : 152 ≤ b.1) (h6 : b.1 ≤ 1000000) {x1 : Int} {x2 : Int} {x3 : Int} {x4 : Int} {x5 : Int} {m : jM} {o : ((Int × Int × Int) ⊕ (Int × Int))} {r : mm_R} (e : jd_313_s50 x1 x2 x3 x4 x5 m = some o) (K : jsm (fun s => (∀ lv : jL, lv 0 = some (jR (some 76)) → lv 1 = some (jI x1) → lv 2 = some (jI x2) → lv 3 = some (jI s.1) → lv 4 = some (jI s.2.1) → lv 5 = some (jI s.2.2) → ey (mm_xt L xs) 2 313 50 lv [] (jhm b m) r)) (fun x => (∀ lv : jL, lv 0 = some (jR (some 76)) → lv 1 = some (jI x1) → lv 2 = some (jI x2) → lv 3 = some (jI x.1) → lv 4 = some (jI x.2) → ey (mm_xt L xs) 2 313 116 lv [] (jhm b m) r)) o) : ∀ lv : jL, lv 0 = some (jR (some 76)) → lv 1 = some (jI x1) → lv 2 = some (jI x2) → lv 3 = some (jI x3) → lv 4 = some (jI x4) → lv 5 = some (jI x5) → ey (mm_xt L xs) 2 313 50 lv [] (jhm b m) r := by
  intro lv f0 f1 f2 f3 f4 f5
  unfold jd_313_s50 at e
  refine ey_iload (cd_313 rfl) f5 ?_
  refine ey_aload_n (cd_313 rfl) f0 ?_
  refine ey_getf_r (cd_313 rfl) mt_313 rfl rfl rfl (jhm_gr (q := 87) hb rfl) ?_
  refine ey_iload_n (cd_313 rfl) f1 ?_
  obtain ⟨v4, e5, e⟩ := jbind e
  refine ey_iald (cd_313 rfl) (jhm_ai hb h6 (by decide) rfl e5) ?_
  by_cases q6 : (jw v4) ≤ (jw x5)
  · rw [if_pos q6] at e
    refine ey_cge (cd_313 rfl) rfl rfl rfl q6 ?_
    cases e
    exact K lv f0 f1 f2 f3 f4
  · rw [if_neg q6] at e
    refine ey_nge (cd_313 rfl) rfl rfl rfl q6 ?_
    refine ey_iload_n (cd_313 rfl) f3 ?_
    refine ey_aload_n (cd_313 rfl) f0 ?_
    refine ey_getf_r (cd_313 rfl) mt_313 rfl rfl rfl (jhm_gr (q := 95) hb rfl) ?_
    refine ey_bipush (cd_313 rfl) (by decide) ?_
    refine ey_iload_n (cd_313 rfl) f1 ?_
    refine ey_imul (cd_313 rfl) ?_
    refine ey_iload (cd_313 rfl) f5 ?_
    refine ey_iadd (cd_313 rfl) ?_
    obtain ⟨v7, e8, e⟩ := jbind e
    refine ey_zald (cd_313 rfl) (jhm_az hb (by decide) rfl e8) ?_
    have K17 : ∀ lv : jL, lv 0 = some (jR (some 76)) → lv 1 = some (jI x1) → lv 2 = some (jI x2) → lv 4 = some (jI x4) → lv 5 = some (jI x5) → ey (mm_xt L xs) 2 313 82 lv [jI (if (jw v7) = 0 then 0 else 1), jI x3] (jhm b m) r := by
      intro lv g0 g1 g2 g4 g5
      refine ey_iadd (cd_313 rfl) ?_
      obtain ⟨z9, e10, e⟩ := jbind e
      refine ey_rs (s0 := [jI (x3 + (if (jw v7) = 0 then 0 else 1))]) (s1 := [jI z9]) (by rw [show (x3 + (if (jw v7) = 0 then 0 else 1)) = z9 from Option.some.inj e10]) ?_
      refine ey_istore_n (cd_313 rfl) mt_313 rfl ?_
      refine ey_iload (cd_313 rfl) g4 ?_
      refine ey_aload_n (cd_313 rfl) g0 ?_
      refine ey_getf_r (cd_313 rfl) mt_313 rfl rfl rfl (jhm_gr (q := 97) hb rfl) ?_
      refine ey_bipush (cd_313 rfl) (by decide) ?_
      refine ey_iload_n (cd_313 rfl) g1 ?_
      refine ey_imul (cd_313 rfl) ?_
      refine ey_iload (cd_313 rfl) g5 ?_
      refine ey_iadd (cd_313 rfl) ?_
      obtain ⟨v11, e12, e⟩ := jbind e
      refine ey_iald (cd_313 rfl) (jhm_ai hb h6 (by decide) rfl e12) ?_
      refine ey_iconst (cd_313 rfl) ?_
      have K15 : ∀ lv : jL, lv 0 = some (jR (some 76)) → lv 1 = some (jI x1) → lv 2 = some (jI x2) → lv 3 = some (jI z9) → lv 5 = some (jI x5) → ey (mm_xt L xs) 2 313 107 lv [jI (if (jw v11) = (-1) then 0 else 1), jI x4] (jhm b m) r := by
        intro lv g0 g1 g2 g3 g5
        refine ey_iadd (cd_313 rfl) ?_
        obtain ⟨z13, e14, e⟩ := jbind e
        refine ey_rs (s0 := [jI (x4 + (if (jw v11) = (-1) then 0 else 1))]) (s1 := [jI z13]) (by rw [show (x4 + (if (jw v11) = (-1) then 0 else 1)) = z13 from Option.some.inj e14]) ?_
        refine ey_istore (cd_313 rfl) mt_313 rfl ?_
        refine ey_iinc (cd_313 rfl) mt_313 rfl g5 ?_
        refine ey_goto (cd_313 rfl) rfl ?_
        cases e
        exact K (jup (jup lv 4 (jI z13)) 5 (jI (x5 + 1))) g0 g1 g2 (jup_o rfl (jup_pi (lv := lv) (j := 3) (v := jI z13) (z := z9) g3)) (jup_pi (lv := (jup lv 4 (jI z13))) (j := 4) (v := jI (x5 + 1)) (z := z13) rfl) rfl
      by_cases q16 : (jw v11) = (-1)
      · refine ey_ceq (cd_313 rfl) rfl rfl (show jw (-1) = (-1) from by decide) q16 ?_
        refine ey_iconst (cd_313 rfl) ?_
        exact ey_rs (s0 := [jI 0, jI x4]) (s1 := [jI (if (jw v11) = (-1) then 0 else 1), jI x4]) (by rw [show ((if (jw v11) = (-1) then 0 else 1) : Int) = 0 from (if_pos q16)]) (K15 (jup lv 3 (jI z9)) g0 g1 (jup_pi (lv := lv) (j := 2) (v := jI z9) (z := x2) g2) rfl g5)
      · refine ey_neq (cd_313 rfl) rfl rfl (show jw (-1) = (-1) from by decide) q16 ?_
        refine ey_iconst (cd_313 rfl) ?_
        refine ey_goto (cd_313 rfl) rfl ?_
        exact ey_rs (s0 := [jI 1, jI x4]) (s1 := [jI (if (jw v11) = (-1) then 0 else 1), jI x4]) (by rw [show ((if (jw v11) = (-1) then 0 else 1) : Int) = 1 from (if_neg q16)]) (K15 (jup lv 3 (jI z9)) g0 g1 (jup_pi (lv := lv) (j := 2) (v := jI z9) (z := x2) g2) rfl g5)
    by_cases q18 : (jw v7) = 0
    · refine ey_zeq (cd_313 rfl) rfl rfl q18 ?_
      refine ey_iconst (cd_313 rfl) ?_
      exact ey_rs (s0 := [jI 0, jI x3]) (s1 := [jI (if (jw v7) = 0 then 0 else 1), jI x3]) (by rw [show ((if (jw v7) = 0 then 0 else 1) : Int) = 0 from (if_pos q18)]) (K17 lv f0 f1 f2 f4 f5)
    · refine ey_yeq (cd_313 rfl) rfl rfl q18 ?_
      refine ey_iconst (cd_313 rfl) ?_
      refine ey_goto (cd_313 rfl) rfl ?_
      exact ey_rs (s0 := [jI 1, jI x3]) (s1 := [jI (if (jw v7) = 0 then 0 else 1), jI x3]) (by rw [show ((if (jw v7) = 0 then 0 else 1) : Int) = 1 from (if_neg q18)]) (K17 lv f0 f1 f2 f4 f5)
theorem jk_313_l50 {L : Nat} {xs : Nat → Int32} {b : jH} (hb : 152 ≤ b.1) (h6 : b.1 ≤ 1000000) {x1 : Int} {x2 : Int} {x3 : Int} {x4 : Int} {x5 : Int} {m : jM} {x : (Int × Int)} {r : mm_R} (e : jd_313_l50 x1 x2 x3 x4 x5 m = some x) (K : (∀ lv : jL, lv 0 = some (jR (some 76)) → lv 1 = some (jI x1) → lv 2 = some (jI x2) → lv 3 = some (jI x.1) → lv 4 = some (jI x.2) → ey (mm_xt L xs) 2 313 116 lv [] (jhm b m) r)) : ∀ lv : jL, lv 0 = some (jR (some 76)) → lv 1 = some (jI x1) → lv 2 = some (jI x2) → lv 3 = some (jI x3) → lv 4 = some (jI x4) → lv 5 = some (jI x5) → ey (mm_xt L xs) 2 313 50 lv [] (jhm b m) r := by
  unfold jd_313_l50 at e
  exact jlp_ok2 (P := fun s => ∀ lv : jL, lv 0 = some (jR (some 76)) → lv 1 = some (jI x1) → lv 2 = some (jI x2) → lv 3 = some (jI s.1) → lv 4 = some (jI s.2.1) → lv 5 = some (jI s.2.2) → ey (mm_xt L xs) 2 313 50 lv [] (jhm b m) r) (Q := fun x => (∀ lv : jL, lv 0 = some (jR (some 76)) → lv 1 = some (jI x1) → lv 2 = some (jI x2) → lv 3 = some (jI x.1) → lv 4 = some (jI x.2) → ey (mm_xt L xs) 2 313 116 lv [] (jhm b m) r)) (fun s q hq hk => jk_313_s50 hb h6 hq hk) jfu _ x e K
set_option maxRecDepth 100000 in
theorem jk_313_b30 {L : Nat} {xs : Nat → Int32} {b : jH} (hb : 152 ≤ b.1) (h6 : b.1 ≤ 1000000) {x1 : Int} {x2 : Int} {y0 : Int} {m : jM} {o : (Int × jM)} (e : jd_313_b30 x1 x2 y0 m = some o) : ∀ lv : jL, lv 0 = some (jR (some 76)) → lv 1 = some (jI x1) → lv 2 = some (jI x2) → ey (mm_xt L xs) 2 313 30 lv [jI y0, jR (some 76)] (jhm b m) (.inl (some (jcv (jI o.1)), jaH (jhm b o.2))) := by
  intro lv f0 f1 f2
  unfold jd_313_b30 at e
  obtain ⟨m1, e2, e⟩ := jbind e
  refine ey_putf_i (cd_313 rfl) mt_313 rfl rfl rfl (jhm_pi' (k := 0) hb e2) ?_
  refine ey_aload_n (cd_313 rfl) f0 ?_
  refine ey_getf_i (z := (m1 76 0)) (cd_313 rfl) mt_313 rfl rfl rfl (jhm_gi hb 0) ?_
  by_cases q3 : (jw (m1 76 0)) ≤ 0
  · rw [if_pos q3] at e
    refine ey_zle (cd_313 rfl) rfl rfl q3 ?_
    refine ey_iconst (cd_313 rfl) ?_
    refine ey_istore_n (cd_313 rfl) mt_313 rfl ?_
    refine ey_iconst (cd_313 rfl) ?_
    refine ey_istore (cd_313 rfl) mt_313 rfl ?_
    refine ey_iconst (cd_313 rfl) ?_
    refine ey_istore (cd_313 rfl) mt_313 rfl ?_
    obtain ⟨x19, e20, e⟩ := jbind e
    refine jk_313_l50 hb h6 e20 ?_ (jup (jup (jup lv 3 (jI 0)) 4 (jI 0)) 5 (jI 0)) f0 f1 (jup_o rfl (jup_o rfl (jup_pi (lv := lv) (j := 2) (v := jI 0) (z := x2) f2))) (jup_o rfl (jup_pi (lv := (jup lv 3 (jI 0))) (j := 3) (v := jI 0) (z := 0) rfl)) (jup_pi (lv := (jup (jup lv 3 (jI 0)) 4 (jI 0))) (j := 4) (v := jI 0) (z := 0) rfl) rfl
    intro lv g0 g1 g2 g3 g4
    refine ey_iload_n (cd_313 rfl) g2 ?_
    by_cases q21 : (jw x2) = 0
    · rw [if_pos q21] at e
      refine ey_tsw (cd_313 rfl) q21 (by decide) rfl rfl ?_
      refine ey_aload_n (cd_313 rfl) g0 ?_
      refine ey_getf_r (cd_313 rfl) mt_313 rfl rfl rfl (jhm_gr (q := 83) hb rfl) ?_
      refine ey_iload_n (cd_313 rfl) g1 ?_
      obtain ⟨v22, e23, e⟩ := jbind e
      refine ey_iald (cd_313 rfl) (jhm_ai hb h6 (by decide) rfl e23) ?_
      cases e
      exact ey_reti (cd_313 rfl) mt_313 rfl
    · rw [if_neg q21] at e
      by_cases q24 : (jw x2) = 1
      · rw [if_pos q24] at e
        refine ey_tsw (cd_313 rfl) q24 (by decide) rfl rfl ?_
        refine ey_aload_n (cd_313 rfl) g0 ?_
        refine ey_getf_r (cd_313 rfl) mt_313 rfl rfl rfl (jhm_gr (q := 84) hb rfl) ?_
        refine ey_iload_n (cd_313 rfl) g1 ?_
        obtain ⟨v25, e26, e⟩ := jbind e
        refine ey_iald (cd_313 rfl) (jhm_ai hb h6 (by decide) rfl e26) ?_
        cases e
        exact ey_reti (cd_313 rfl) mt_313 rfl
      · rw [if_neg q24] at e
        by_cases q27 : (jw x2) = 2
        · rw [if_pos q27] at e
          refine ey_tsw (cd_313 rfl) q27 (by decide) rfl rfl ?_
          refine ey_aload_n (cd_313 rfl) g0 ?_
          refine ey_getf_r (cd_313 rfl) mt_313 rfl rfl rfl (jhm_gr (q := 85) hb rfl) ?_
          refine ey_iload_n (cd_313 rfl) g1 ?_
          obtain ⟨v28, e29, e⟩ := jbind e
          refine ey_iald (cd_313 rfl) (jhm_ai hb h6 (by decide) rfl e29) ?_
          cases e
          exact ey_reti (cd_313 rfl) mt_313 rfl
        · rw [if_neg q27] at e
          by_cases q30 : (jw x2) = 3
          · rw [if_pos q30] at e
            refine ey_tsw (cd_313 rfl) q30 (by decide) rfl rfl ?_
            refine ey_aload_n (cd_313 rfl) g0 ?_
            refine ey_getf_r (cd_313 rfl) mt_313 rfl rfl rfl (jhm_gr (q := 86) hb rfl) ?_
            refine ey_iload_n (cd_313 rfl) g1 ?_
            obtain ⟨v31, e32, e⟩ := jbind e
            refine ey_iald (cd_313 rfl) (jhm_ai hb h6 (by decide) rfl e32) ?_
            cases e
            exact ey_reti (cd_313 rfl) mt_313 rfl
          · rw [if_neg q30] at e
            by_cases q33 : (jw x2) = 4
            · rw [if_pos q33] at e
              refine ey_tsw (cd_313 rfl) q33 (by decide) rfl rfl ?_
              refine ey_aload_n (cd_313 rfl) g0 ?_
              refine ey_getf_r (cd_313 rfl) mt_313 rfl rfl rfl (jhm_gr (q := 87) hb rfl) ?_
              refine ey_iload_n (cd_313 rfl) g1 ?_
              obtain ⟨v34, e35, e⟩ := jbind e
              refine ey_iald (cd_313 rfl) (jhm_ai hb h6 (by decide) rfl e35) ?_
              cases e
              exact ey_reti (cd_313 rfl) mt_313 rfl
            · rw [if_neg q33] at e
              by_cases q36 : (jw x2) = 5
              · rw [if_pos q36] at e
                refine ey_tsw (cd_313 rfl) q36 (by decide) rfl rfl ?_
                refine ey_aload_n (cd_313 rfl) g0 ?_
                refine ey_getf_r (cd_313 rfl) mt_313 rfl rfl rfl (jhm_gr (q := 88) hb rfl) ?_
                refine ey_iload_n (cd_313 rfl) g1 ?_
                obtain ⟨v37, e38, e⟩ := jbind e
                refine ey_iald (cd_313 rfl) (jhm_ai hb h6 (by decide) rfl e38) ?_
                cases e
                exact ey_reti (cd_313 rfl) mt_313 rfl
              · rw [if_neg q36] at e
                by_cases q39 : (jw x2) = 6
                · rw [if_pos q39] at e
                  refine ey_tsw (cd_313 rfl) q39 (by decide) rfl rfl ?_
                  refine ey_iload_n (cd_313 rfl) g3 ?_
                  cases e
                  exact ey_reti (cd_313 rfl) mt_313 rfl
                · rw [if_neg q39] at e
                  refine ey_tsw_d (cd_313 rfl) (by omega) rfl ?_
                  refine ey_iload (cd_313 rfl) g4 ?_
                  cases e
                  exact ey_reti (cd_313 rfl) mt_313 rfl
  · rw [if_neg q3] at e
    refine ey_yle (cd_313 rfl) rfl rfl q3 ?_
    refine ey_iconst (cd_313 rfl) ?_
    cases e
    exact ey_reti (cd_313 rfl) mt_313 rfl
set_option maxRecDepth 100000 in
theorem ok_313 {L : Nat} {xs : Nat → Int32} {b : jH} (hb : 152 ≤ b.1) (h6 : b.1 ≤ 1000000) {p0 : Int} {p1 : Int} {m : jM} {o : (Int × jM)} (e : jd_313 p0 p1 m = some o) : mm_Runs (mm_xt L xs) 3 313 ([jR (some 76), jI p0, jI p1].map jcv) (jaH (jhm b m)) (.inl (some (jcv (jI o.1)), jaH (jhm b o.2))) := by
  refine ey_run0 _ mt_313 (jsl_s rfl) ?_
  unfold jd_313 at e
  refine ey_aload_n (cd_313 rfl) rfl ?_
  refine ey_aload_n (cd_313 rfl) rfl ?_
  refine ey_iload_n (cd_313 rfl) rfl ?_
  refine ey_cv (s0 := [jI p0, jR (some 76), jR (some 76)]) (s1 := [jR (some 76)]) (st' := [jI (jd_311 p0 m), jR (some 76)]) (cd_313 rfl) mt_313 mt_311 rfl rfl rfl (jhm_is hb) rfl (jsml_s rfl) rfl (ok_311 hb h6 ) ?_
  have K40 : ∀ lv : jL, lv 0 = some (jR (some 76)) → lv 1 = some (jI p0) → lv 2 = some (jI p1) → ey (mm_xt L xs) 2 313 30 lv [jI (if (jw (jd_311 p0 m)) = 0 then 1 else (if (jw (jd_204 (jw p1) 0 7)) = 0 then 2 else 0)), jR (some 76)] (jhm b m) (.inl (some (jcv (jI o.1)), jaH (jhm b o.2))) := by
    intro lv g0 g1 g2
    exact jk_313_b30 hb h6 e lv g0 g1 g2
  by_cases q41 : (jw (jd_311 p0 m)) = 0
  · refine ey_yne (cd_313 rfl) rfl rfl (fun w => w q41) ?_
    refine ey_iconst (cd_313 rfl) ?_
    refine ey_goto (cd_313 rfl) rfl ?_
    exact ey_rs (s0 := [jI 1, jR (some 76)]) (s1 := [jI (if (jw (jd_311 p0 m)) = 0 then 1 else (if (jw (jd_204 (jw p1) 0 7)) = 0 then 2 else 0)), jR (some 76)]) (by rw [show ((if (jw (jd_311 p0 m)) = 0 then 1 else (if (jw (jd_204 (jw p1) 0 7)) = 0 then 2 else 0)) : Int) = 1 from (if_pos q41)]) (K40 (jlf (jla 0 [jR (some 76), jI p0, jI p1])) rfl rfl rfl)
  · refine ey_zne (cd_313 rfl) rfl rfl q41 ?_
    refine ey_iload_n (cd_313 rfl) rfl ?_
    refine ey_i2l (cd_313 rfl) ?_
    refine ey_lconst0 (cd_313 rfl) ?_
    refine ey_ldc2 (z := 7) (cd_313 rfl) mt_313 rfl (by decide) ?_
    refine ey_cs (s0 := [jJ 7, jJ 0, jJ (jw p1), jR (some 76)]) (s1 := [jR (some 76)]) (st' := [jI (jd_204 (jw p1) 0 7), jR (some 76)]) (cd_313 rfl) mt_313 mt_204 rfl (by decide) rfl rfl (jsml_s rfl) rfl (mm_Runs.up (d := 1) (by decide) (ok_204 )) ?_
    by_cases q42 : (jw (jd_204 (jw p1) 0 7)) = 0
    · refine ey_yne (cd_313 rfl) rfl rfl (fun w => w q42) ?_
      refine ey_iconst (cd_313 rfl) ?_
      refine ey_goto (cd_313 rfl) rfl ?_
      exact ey_rs (s0 := [jI 2, jR (some 76)]) (s1 := [jI (if (jw (jd_311 p0 m)) = 0 then 1 else (if (jw (jd_204 (jw p1) 0 7)) = 0 then 2 else 0)), jR (some 76)]) (by rw [show ((if (jw (jd_311 p0 m)) = 0 then 1 else (if (jw (jd_204 (jw p1) 0 7)) = 0 then 2 else 0)) : Int) = 2 from ((if_neg q41).trans (if_pos q42))]) (K40 (jlf (jla 0 [jR (some 76), jI p0, jI p1])) rfl rfl rfl)
    · refine ey_zne (cd_313 rfl) rfl rfl q42 ?_
      refine ey_iconst (cd_313 rfl) ?_
      exact ey_rs (s0 := [jI 0, jR (some 76)]) (s1 := [jI (if (jw (jd_311 p0 m)) = 0 then 1 else (if (jw (jd_204 (jw p1) 0 7)) = 0 then 2 else 0)), jR (some 76)]) (by rw [show ((if (jw (jd_311 p0 m)) = 0 then 1 else (if (jw (jd_204 (jw p1) 0 7)) = 0 then 2 else 0)) : Int) = 0 from ((if_neg q41).trans (if_neg q42))]) (K40 (jlf (jla 0 [jR (some 76), jI p0, jI p1])) rfl rfl rfl)
theorem cd_314 {pc : Nat} {i : Instr × Nat} (h : mm_lk mm_c314 pc = some i) : mm_cd 314 pc = some i := h
theorem mt_314 : mm_MT 314 = (12, 3, some .boolean, 2, 0, []) := rfl
set_option maxRecDepth 100000 in
theorem jk_314_b31 {L : Nat} {xs : Nat → Int32} {b : jH} (hb : 152 ≤ b.1) (h6 : b.1 ≤ 1000000) {y0 : Int} {m : jM} {o : Int} (e : jd_314_b31 y0 m = some o) : ∀ lv : jL, ey (mm_xt L xs) 2 314 31 lv [jI y0] (jhm b m) (.inl (some (jcv (jI o)), jaH (jhm b m))) := by
  intro lv 
  unfold jd_314_b31 at e
  obtain ⟨u2, e3, e⟩ := jbind e
  cases e
  exact ey_retz (cd_314 rfl) mt_314 rfl (jbc_s e3)
set_option maxRecDepth 100000 in
theorem ok_314 {L : Nat} {xs : Nat → Int32} {b : jH} (hb : 152 ≤ b.1) (h6 : b.1 ≤ 1000000) {p0 : Int} {p1 : Int} {m : jM} {o : Int} (e : jd_314 p0 p1 m = some o) : mm_Runs (mm_xt L xs) 3 314 ([jR (some 76), jI p0, jI p1].map jcv) (jaH (jhm b m)) (.inl (some (jcv (jI o)), jaH (jhm b m))) := by
  refine ey_run0 _ mt_314 (jsl_s rfl) ?_
  unfold jd_314 at e
  refine ey_aload_n (cd_314 rfl) rfl ?_
  refine ey_iload_n (cd_314 rfl) rfl ?_
  refine ey_cv (s0 := [jI p0, jR (some 76)]) (s1 := []) (st' := [jI (jd_311 p0 m)]) (cd_314 rfl) mt_314 mt_311 rfl rfl rfl (jhm_is hb) rfl (jsml_s rfl) rfl (ok_311 hb h6 ) ?_
  by_cases q1 : (jw (jd_311 p0 m)) = 0
  · rw [if_pos q1] at e
    refine ey_zeq (cd_314 rfl) rfl rfl q1 ?_
    refine ey_iconst (cd_314 rfl) ?_
    exact jk_314_b31 hb h6 e (jlf (jla 0 [jR (some 76), jI p0, jI p1])) 
  · rw [if_neg q1] at e
    refine ey_yeq (cd_314 rfl) rfl rfl q1 ?_
    refine ey_iload_n (cd_314 rfl) rfl ?_
    refine ey_i2l (cd_314 rfl) ?_
    refine ey_lconst0 (cd_314 rfl) ?_
    refine ey_aload_n (cd_314 rfl) rfl ?_
    refine ey_getf_r (cd_314 rfl) mt_314 rfl rfl rfl (jhm_gr (q := 87) hb rfl) ?_
    refine ey_iload_n (cd_314 rfl) rfl ?_
    obtain ⟨v4, e5, e⟩ := jbind e
    refine ey_iald (cd_314 rfl) (jhm_ai hb h6 (by decide) rfl e5) ?_
    refine ey_iconst (cd_314 rfl) ?_
    refine ey_isub (cd_314 rfl) ?_
    refine ey_i2l (cd_314 rfl) ?_
    refine ey_cs (s0 := [jJ (jw (v4 - 1)), jJ 0, jJ (jw p1)]) (s1 := []) (st' := [jI (jd_204 (jw p1) 0 (jw (v4 - 1)))]) (cd_314 rfl) mt_314 mt_204 rfl (by decide) rfl rfl (jsml_s rfl) rfl (mm_Runs.up (d := 1) (by decide) (ok_204 )) ?_
    have K6 : ∀ lv : jL, ey (mm_xt L xs) 2 314 31 lv [jI (if (jw (jd_204 (jw p1) 0 (jw (v4 - 1)))) = 0 then 0 else 1)] (jhm b m) (.inl (some (jcv (jI o)), jaH (jhm b m))) := by
      intro lv 
      exact jk_314_b31 hb h6 e lv 
    by_cases q7 : (jw (jd_204 (jw p1) 0 (jw (v4 - 1)))) = 0
    · refine ey_zeq (cd_314 rfl) rfl rfl q7 ?_
      refine ey_iconst (cd_314 rfl) ?_
      exact ey_rs (s0 := [jI 0]) (s1 := [jI (if (jw (jd_204 (jw p1) 0 (jw (v4 - 1)))) = 0 then 0 else 1)]) (by rw [show ((if (jw (jd_204 (jw p1) 0 (jw (v4 - 1)))) = 0 then 0 else 1) : Int) = 0 from (if_pos q7)]) (K6 (jlf (jla 0 [jR (some 76), jI p0, jI p1])) )
    · refine ey_yeq (cd_314 rfl) rfl rfl q7 ?_
      refine ey_iconst (cd_314 rfl) ?_
      refine ey_goto (cd_314 rfl) rfl ?_
      exact ey_rs (s0 := [jI 1]) (s1 := [jI (if (jw (jd_204 (jw p1) 0 (jw (v4 - 1)))) = 0 then 0 else 1)]) (by rw [show ((if (jw (jd_204 (jw p1) 0 (jw (v4 - 1)))) = 0 then 0 else 1) : Int) = 1 from (if_neg q7)]) (K6 (jlf (jla 0 [jR (some 76), jI p0, jI p1])) )
theorem cd_315 {pc : Nat} {i : Instr × Nat} (h : mm_lk mm_c315 pc = some i) : mm_cd 315 pc = some i := h
theorem mt_315 : mm_MT 315 = (12, 5, some .int, 3, 0, []) := rfl
set_option maxRecDepth 100000 in
theorem jk_315_b31 {L : Nat} {xs : Nat → Int32} {b : jH} (hb : 152 ≤ b.1) (h6 : b.1 ≤ 1000000) {x1 : Int} {x2 : Int} {x3 : Int} {y0 : Int} {m : jM} {o : (Int × jM)} (e : jd_315_b31 x1 x2 x3 y0 m = some o) : ∀ lv : jL, lv 0 = some (jR (some 76)) → lv 1 = some (jI x1) → lv 2 = some (jI x2) → lv 3 = some (jI x3) → ey (mm_xt L xs) 3 315 31 lv [jI y0, jR (some 76)] (jhm b m) (.inl (some (jcv (jI o.1)), jaH (jhm b o.2))) := by
  intro lv f0 f1 f2 f3
  unfold jd_315_b31 at e
  obtain ⟨m3, e4, e⟩ := jbind e
  refine ey_putf_i (cd_315 rfl) mt_315 rfl rfl rfl (jhm_pi' (k := 0) hb e4) ?_
  refine ey_aload_n (cd_315 rfl) f0 ?_
  refine ey_getf_i (z := (m3 76 0)) (cd_315 rfl) mt_315 rfl rfl rfl (jhm_gi hb 0) ?_
  by_cases q5 : (jw (m3 76 0)) ≤ 0
  · rw [if_pos q5] at e
    refine ey_zle (cd_315 rfl) rfl rfl q5 ?_
    refine ey_bipush (cd_315 rfl) (by decide) ?_
    refine ey_iload_n (cd_315 rfl) f1 ?_
    refine ey_imul (cd_315 rfl) ?_
    refine ey_iload_n (cd_315 rfl) f2 ?_
    refine ey_iadd (cd_315 rfl) ?_
    refine ey_istore (cd_315 rfl) mt_315 rfl ?_
    refine ey_iload_n (cd_315 rfl) (jup_pi (lv := lv) (j := 3) (v := jI ((12 * x1) + x2)) (z := x3) f3) ?_
    by_cases q6 : (jw x3) = 0
    · rw [if_pos q6] at e
      refine ey_tsw (cd_315 rfl) q6 (by decide) rfl rfl ?_
      refine ey_aload_n (cd_315 rfl) f0 ?_
      refine ey_getf_r (cd_315 rfl) mt_315 rfl rfl rfl (jhm_gr (q := 90) hb rfl) ?_
      refine ey_iload (cd_315 rfl) rfl ?_
      obtain ⟨v7, e8, e⟩ := jbind e
      refine ey_iald (cd_315 rfl) (jhm_ai hb h6 (by decide) rfl e8) ?_
      cases e
      exact ey_reti (cd_315 rfl) mt_315 rfl
    · rw [if_neg q6] at e
      by_cases q9 : (jw x3) = 1
      · rw [if_pos q9] at e
        refine ey_tsw (cd_315 rfl) q9 (by decide) rfl rfl ?_
        refine ey_aload_n (cd_315 rfl) f0 ?_
        refine ey_getf_r (cd_315 rfl) mt_315 rfl rfl rfl (jhm_gr (q := 91) hb rfl) ?_
        refine ey_iload (cd_315 rfl) rfl ?_
        obtain ⟨v10, e11, e⟩ := jbind e
        refine ey_iald (cd_315 rfl) (jhm_ai hb h6 (by decide) rfl e11) ?_
        cases e
        exact ey_reti (cd_315 rfl) mt_315 rfl
      · rw [if_neg q9] at e
        by_cases q12 : (jw x3) = 2
        · rw [if_pos q12] at e
          refine ey_tsw (cd_315 rfl) q12 (by decide) rfl rfl ?_
          refine ey_aload_n (cd_315 rfl) f0 ?_
          refine ey_getf_r (cd_315 rfl) mt_315 rfl rfl rfl (jhm_gr (q := 92) hb rfl) ?_
          refine ey_iload (cd_315 rfl) rfl ?_
          obtain ⟨v13, e14, e⟩ := jbind e
          refine ey_iald (cd_315 rfl) (jhm_ai hb h6 (by decide) rfl e14) ?_
          cases e
          exact ey_reti (cd_315 rfl) mt_315 rfl
        · rw [if_neg q12] at e
          by_cases q15 : (jw x3) = 3
          · rw [if_pos q15] at e
            refine ey_tsw (cd_315 rfl) q15 (by decide) rfl rfl ?_
            refine ey_aload_n (cd_315 rfl) f0 ?_
            refine ey_getf_r (cd_315 rfl) mt_315 rfl rfl rfl (jhm_gr (q := 93) hb rfl) ?_
            refine ey_iload (cd_315 rfl) rfl ?_
            obtain ⟨v16, e17, e⟩ := jbind e
            refine ey_iald (cd_315 rfl) (jhm_ai hb h6 (by decide) rfl e17) ?_
            cases e
            exact ey_reti (cd_315 rfl) mt_315 rfl
          · rw [if_neg q15] at e
            by_cases q18 : (jw x3) = 4
            · rw [if_pos q18] at e
              refine ey_tsw (cd_315 rfl) q18 (by decide) rfl rfl ?_
              refine ey_aload_n (cd_315 rfl) f0 ?_
              refine ey_getf_r (cd_315 rfl) mt_315 rfl rfl rfl (jhm_gr (q := 94) hb rfl) ?_
              refine ey_iload (cd_315 rfl) rfl ?_
              obtain ⟨v19, e20, e⟩ := jbind e
              refine ey_iald (cd_315 rfl) (jhm_ai hb h6 (by decide) rfl e20) ?_
              cases e
              exact ey_reti (cd_315 rfl) mt_315 rfl
            · rw [if_neg q18] at e
              by_cases q21 : (jw x3) = 5
              · rw [if_pos q21] at e
                refine ey_tsw (cd_315 rfl) q21 (by decide) rfl rfl ?_
                refine ey_aload_n (cd_315 rfl) f0 ?_
                refine ey_getf_r (cd_315 rfl) mt_315 rfl rfl rfl (jhm_gr (q := 95) hb rfl) ?_
                refine ey_iload (cd_315 rfl) rfl ?_
                obtain ⟨v22, e23, e⟩ := jbind e
                refine ey_zald (cd_315 rfl) (jhm_az hb (by decide) rfl e23) ?_
                have K24 : ∀ lv : jL, ey (mm_xt L xs) 3 315 151 lv [jI (if (jw v22) = 0 then 0 else 1)] (jhm b m3) (.inl (some (jcv (jI o.1)), jaH (jhm b o.2))) := by
                  intro lv 
                  cases e
                  exact ey_reti (cd_315 rfl) mt_315 rfl
                by_cases q25 : (jw v22) = 0
                · refine ey_zeq (cd_315 rfl) rfl rfl q25 ?_
                  refine ey_iconst (cd_315 rfl) ?_
                  exact ey_rs (s0 := [jI 0]) (s1 := [jI (if (jw v22) = 0 then 0 else 1)]) (by rw [show ((if (jw v22) = 0 then 0 else 1) : Int) = 0 from (if_pos q25)]) (K24 (jup lv 4 (jI ((12 * x1) + x2))) )
                · refine ey_yeq (cd_315 rfl) rfl rfl q25 ?_
                  refine ey_iconst (cd_315 rfl) ?_
                  refine ey_goto (cd_315 rfl) rfl ?_
                  exact ey_rs (s0 := [jI 1]) (s1 := [jI (if (jw v22) = 0 then 0 else 1)]) (by rw [show ((if (jw v22) = 0 then 0 else 1) : Int) = 1 from (if_neg q25)]) (K24 (jup lv 4 (jI ((12 * x1) + x2))) )
              · rw [if_neg q21] at e
                by_cases q26 : (jw x3) = 6
                · rw [if_pos q26] at e
                  refine ey_tsw (cd_315 rfl) q26 (by decide) rfl rfl ?_
                  refine ey_aload_n (cd_315 rfl) f0 ?_
                  refine ey_getf_r (cd_315 rfl) mt_315 rfl rfl rfl (jhm_gr (q := 96) hb rfl) ?_
                  refine ey_iload (cd_315 rfl) rfl ?_
                  obtain ⟨v27, e28, e⟩ := jbind e
                  refine ey_iald (cd_315 rfl) (jhm_ai hb h6 (by decide) rfl e28) ?_
                  cases e
                  exact ey_reti (cd_315 rfl) mt_315 rfl
                · rw [if_neg q26] at e
                  refine ey_tsw_d (cd_315 rfl) (by omega) rfl ?_
                  refine ey_aload_n (cd_315 rfl) f0 ?_
                  refine ey_getf_r (cd_315 rfl) mt_315 rfl rfl rfl (jhm_gr (q := 97) hb rfl) ?_
                  refine ey_iload (cd_315 rfl) rfl ?_
                  obtain ⟨v29, e30, e⟩ := jbind e
                  refine ey_iald (cd_315 rfl) (jhm_ai hb h6 (by decide) rfl e30) ?_
                  cases e
                  exact ey_reti (cd_315 rfl) mt_315 rfl
  · rw [if_neg q5] at e
    refine ey_yle (cd_315 rfl) rfl rfl q5 ?_
    refine ey_iconst (cd_315 rfl) ?_
    cases e
    exact ey_reti (cd_315 rfl) mt_315 rfl
set_option maxRecDepth 100000 in
theorem ok_315 {L : Nat} {xs : Nat → Int32} {b : jH} (hb : 152 ≤ b.1) (h6 : b.1 ≤ 1000000) {p0 : Int} {p1 : Int} {p2 : Int} {m : jM} {o : (Int × jM)} (e : jd_315 p0 p1 p2 m = some o) : mm_Runs (mm_xt L xs) 4 315 ([jR (some 76), jI p0, jI p1, jI p2].map jcv) (jaH (jhm b m)) (.inl (some (jcv (jI o.1)), jaH (jhm b o.2))) := by
  refine ey_run0 _ mt_315 (jsl_s rfl) ?_
  unfold jd_315 at e
  refine ey_aload_n (cd_315 rfl) rfl ?_
  refine ey_aload_n (cd_315 rfl) rfl ?_
  refine ey_iload_n (cd_315 rfl) rfl ?_
  refine ey_iload_n (cd_315 rfl) rfl ?_
  obtain ⟨v1, e2, e⟩ := jbind e
  refine ey_cv (s0 := [jI p1, jI p0, jR (some 76), jR (some 76)]) (s1 := [jR (some 76)]) (st' := [jI v1, jR (some 76)]) (cd_315 rfl) mt_315 mt_314 rfl rfl rfl (jhm_is hb) rfl (jsml_s rfl) rfl (ok_314 hb h6 e2) ?_
  have K31 : ∀ lv : jL, lv 0 = some (jR (some 76)) → lv 1 = some (jI p0) → lv 2 = some (jI p1) → lv 3 = some (jI p2) → ey (mm_xt L xs) 3 315 31 lv [jI (if (jw v1) = 0 then 1 else (if (jw (jd_204 (jw p2) 0 7)) = 0 then 2 else 0)), jR (some 76)] (jhm b m) (.inl (some (jcv (jI o.1)), jaH (jhm b o.2))) := by
    intro lv g0 g1 g2 g3
    exact jk_315_b31 hb h6 e lv g0 g1 g2 g3
  by_cases q32 : (jw v1) = 0
  · refine ey_yne (cd_315 rfl) rfl rfl (fun w => w q32) ?_
    refine ey_iconst (cd_315 rfl) ?_
    refine ey_goto (cd_315 rfl) rfl ?_
    exact ey_rs (s0 := [jI 1, jR (some 76)]) (s1 := [jI (if (jw v1) = 0 then 1 else (if (jw (jd_204 (jw p2) 0 7)) = 0 then 2 else 0)), jR (some 76)]) (by rw [show ((if (jw v1) = 0 then 1 else (if (jw (jd_204 (jw p2) 0 7)) = 0 then 2 else 0)) : Int) = 1 from (if_pos q32)]) (K31 (jlf (jla 0 [jR (some 76), jI p0, jI p1, jI p2])) rfl rfl rfl rfl)
  · refine ey_zne (cd_315 rfl) rfl rfl q32 ?_
    refine ey_iload_n (cd_315 rfl) rfl ?_
    refine ey_i2l (cd_315 rfl) ?_
    refine ey_lconst0 (cd_315 rfl) ?_
    refine ey_ldc2 (z := 7) (cd_315 rfl) mt_315 rfl (by decide) ?_
    refine ey_cs (s0 := [jJ 7, jJ 0, jJ (jw p2), jR (some 76)]) (s1 := [jR (some 76)]) (st' := [jI (jd_204 (jw p2) 0 7), jR (some 76)]) (cd_315 rfl) mt_315 mt_204 rfl (by decide) rfl rfl (jsml_s rfl) rfl (mm_Runs.up (d := 1) (by decide) (ok_204 )) ?_
    by_cases q33 : (jw (jd_204 (jw p2) 0 7)) = 0
    · refine ey_yne (cd_315 rfl) rfl rfl (fun w => w q33) ?_
      refine ey_iconst (cd_315 rfl) ?_
      refine ey_goto (cd_315 rfl) rfl ?_
      exact ey_rs (s0 := [jI 2, jR (some 76)]) (s1 := [jI (if (jw v1) = 0 then 1 else (if (jw (jd_204 (jw p2) 0 7)) = 0 then 2 else 0)), jR (some 76)]) (by rw [show ((if (jw v1) = 0 then 1 else (if (jw (jd_204 (jw p2) 0 7)) = 0 then 2 else 0)) : Int) = 2 from ((if_neg q32).trans (if_pos q33))]) (K31 (jlf (jla 0 [jR (some 76), jI p0, jI p1, jI p2])) rfl rfl rfl rfl)
    · refine ey_zne (cd_315 rfl) rfl rfl q33 ?_
      refine ey_iconst (cd_315 rfl) ?_
      exact ey_rs (s0 := [jI 0, jR (some 76)]) (s1 := [jI (if (jw v1) = 0 then 1 else (if (jw (jd_204 (jw p2) 0 7)) = 0 then 2 else 0)), jR (some 76)]) (by rw [show ((if (jw v1) = 0 then 1 else (if (jw (jd_204 (jw p2) 0 7)) = 0 then 2 else 0)) : Int) = 0 from ((if_neg q32).trans (if_neg q33))]) (K31 (jlf (jla 0 [jR (some 76), jI p0, jI p1, jI p2])) rfl rfl rfl rfl)
theorem cd_316 {pc : Nat} {i : Instr × Nat} (h : mm_lk mm_c316 pc = some i) : mm_cd 316 pc = some i := h
theorem mt_316 : mm_MT 316 = (12, 2, some .int, 1, 0, []) := rfl
set_option maxRecDepth 100000 in
theorem ok_316 {L : Nat} {xs : Nat → Int32} {b : jH} (hb : 152 ≤ b.1) (h6 : b.1 ≤ 1000000) {p0 : Int} {m : jM} {o : Int} (e : jd_316 p0 m = some o) : mm_Runs (mm_xt L xs) 1 316 ([jR (some 76), jI p0].map jcv) (jaH (jhm b m)) (.inl (some (jcv (jI o)), jaH (jhm b m))) := by
  refine ey_run0 _ mt_316 (jsl_s rfl) ?_
  unfold jd_316 at e
  refine ey_aload_n (cd_316 rfl) rfl ?_
  refine ey_getf_r (cd_316 rfl) mt_316 rfl rfl rfl (jhm_gr (q := 84) hb rfl) ?_
  refine ey_iload_n (cd_316 rfl) rfl ?_
  obtain ⟨v1, e2, e⟩ := jbind e
  refine ey_iald (cd_316 rfl) (jhm_ai hb h6 (by decide) rfl e2) ?_
  refine ey_bipush (cd_316 rfl) (by decide) ?_
  refine ey_idiv (cd_316 rfl) (by decide) ?_
  refine ey_aload_n (cd_316 rfl) rfl ?_
  refine ey_getf_r (cd_316 rfl) mt_316 rfl rfl rfl (jhm_gr (q := 85) hb rfl) ?_
  refine ey_iload_n (cd_316 rfl) rfl ?_
  obtain ⟨v3, e4, e⟩ := jbind e
  refine ey_iald (cd_316 rfl) (jhm_ai hb h6 (by decide) rfl e4) ?_
  refine ey_bipush (cd_316 rfl) (by decide) ?_
  refine ey_idiv (cd_316 rfl) (by decide) ?_
  refine ey_imul (cd_316 rfl) ?_
  cases e
  exact ey_reti (cd_316 rfl) mt_316 rfl
theorem cd_317 {pc : Nat} {i : Instr × Nat} (h : mm_lk mm_c317 pc = some i) : mm_cd 317 pc = some i := h
theorem mt_317 : mm_MT 317 = (12, 5, some .int, 4, 0, []) := rfl
set_option maxRecDepth 100000 in
theorem jk_317_b94 {L : Nat} {xs : Nat → Int32} {b : jH} (hb : 152 ≤ b.1) (h6 : b.1 ≤ 1000000) {y0 : Int} {m : jM} {o : (Int × jM)} (e : jd_317_b94 y0 m = some o) : ∀ lv : jL, ey (mm_xt L xs) 3 317 94 lv [jI y0] (jhm b m) (.inl (some (jcv (jI o.1)), jaH (jhm b o.2))) := by
  intro lv 
  unfold jd_317_b94 at e
  cases e
  exact ey_reti (cd_317 rfl) mt_317 rfl
set_option maxRecDepth 100000 in
theorem jk_317_b36 {L : Nat} {xs : Nat → Int32} {b : jH} (hb : 152 ≤ b.1) (h6 : b.1 ≤ 1000000) {x1 : Int} {x2 : Int} {x3 : Int} {x4 : Int} {m : jM} {o : (Int × jM)} (e : jd_317_b36 x1 x2 x3 x4 m = some o) : ∀ lv : jL, lv 0 = some (jR (some 76)) → lv 1 = some (jI x1) → lv 2 = some (jI x2) → lv 3 = some (jI x3) → lv 4 = some (jI x4) → ey (mm_xt L xs) 3 317 36 lv [jR (some 76)] (jhm b m) (.inl (some (jcv (jI o.1)), jaH (jhm b o.2))) := by
  intro lv f0 f1 f2 f3 f4
  unfold jd_317_b36 at e
  refine ey_iconst (cd_317 rfl) ?_
  refine ey_goto (cd_317 rfl) rfl ?_
  obtain ⟨m4, e5, e⟩ := jbind e
  refine ey_putf_i (cd_317 rfl) mt_317 rfl rfl rfl (jhm_pi' (k := 0) hb e5) ?_
  refine ey_aload_n (cd_317 rfl) f0 ?_
  refine ey_getf_i (z := (m4 76 0)) (cd_317 rfl) mt_317 rfl rfl rfl (jhm_gi hb 0) ?_
  by_cases q6 : (jw (m4 76 0)) ≤ 0
  · rw [if_pos q6] at e
    refine ey_zle (cd_317 rfl) rfl rfl q6 ?_
    refine ey_aload_n (cd_317 rfl) f0 ?_
    refine ey_getf_r (cd_317 rfl) mt_317 rfl rfl rfl (jhm_gr (q := 101) hb rfl) ?_
    refine ey_bipush (cd_317 rfl) (by decide) ?_
    refine ey_bipush (cd_317 rfl) (by decide) ?_
    refine ey_iload_n (cd_317 rfl) f1 ?_
    refine ey_imul (cd_317 rfl) ?_
    refine ey_iload_n (cd_317 rfl) f2 ?_
    refine ey_iadd (cd_317 rfl) ?_
    refine ey_imul (cd_317 rfl) ?_
    refine ey_bipush (cd_317 rfl) (by decide) ?_
    refine ey_iload_n (cd_317 rfl) f3 ?_
    refine ey_imul (cd_317 rfl) ?_
    refine ey_iadd (cd_317 rfl) ?_
    refine ey_iload (cd_317 rfl) f4 ?_
    refine ey_iadd (cd_317 rfl) ?_
    obtain ⟨v7, e8, e⟩ := jbind e
    refine ey_iald (cd_317 rfl) (jhm_ai hb h6 (by decide) rfl e8) ?_
    exact jk_317_b94 hb h6 e lv 
  · rw [if_neg q6] at e
    refine ey_yle (cd_317 rfl) rfl rfl q6 ?_
    refine ey_iconst (cd_317 rfl) ?_
    refine ey_goto (cd_317 rfl) rfl ?_
    exact jk_317_b94 hb h6 e lv 
set_option maxRecDepth 100000 in
theorem jk_317_b58 {L : Nat} {xs : Nat → Int32} {b : jH} (hb : 152 ≤ b.1) (h6 : b.1 ≤ 1000000) {x1 : Int} {x2 : Int} {x3 : Int} {x4 : Int} {y0 : Int} {m : jM} {o : (Int × jM)} (e : jd_317_b58 x1 x2 x3 x4 y0 m = some o) : ∀ lv : jL, lv 0 = some (jR (some 76)) → lv 1 = some (jI x1) → lv 2 = some (jI x2) → lv 3 = some (jI x3) → lv 4 = some (jI x4) → ey (mm_xt L xs) 3 317 58 lv [jI y0, jR (some 76)] (jhm b m) (.inl (some (jcv (jI o.1)), jaH (jhm b o.2))) := by
  intro lv f0 f1 f2 f3 f4
  unfold jd_317_b58 at e
  obtain ⟨m14, e15, e⟩ := jbind e
  refine ey_putf_i (cd_317 rfl) mt_317 rfl rfl rfl (jhm_pi' (k := 0) hb e15) ?_
  refine ey_aload_n (cd_317 rfl) f0 ?_
  refine ey_getf_i (z := (m14 76 0)) (cd_317 rfl) mt_317 rfl rfl rfl (jhm_gi hb 0) ?_
  by_cases q16 : (jw (m14 76 0)) ≤ 0
  · rw [if_pos q16] at e
    refine ey_zle (cd_317 rfl) rfl rfl q16 ?_
    refine ey_aload_n (cd_317 rfl) f0 ?_
    refine ey_getf_r (cd_317 rfl) mt_317 rfl rfl rfl (jhm_gr (q := 101) hb rfl) ?_
    refine ey_bipush (cd_317 rfl) (by decide) ?_
    refine ey_bipush (cd_317 rfl) (by decide) ?_
    refine ey_iload_n (cd_317 rfl) f1 ?_
    refine ey_imul (cd_317 rfl) ?_
    refine ey_iload_n (cd_317 rfl) f2 ?_
    refine ey_iadd (cd_317 rfl) ?_
    refine ey_imul (cd_317 rfl) ?_
    refine ey_bipush (cd_317 rfl) (by decide) ?_
    refine ey_iload_n (cd_317 rfl) f3 ?_
    refine ey_imul (cd_317 rfl) ?_
    refine ey_iadd (cd_317 rfl) ?_
    refine ey_iload (cd_317 rfl) f4 ?_
    refine ey_iadd (cd_317 rfl) ?_
    obtain ⟨v17, e18, e⟩ := jbind e
    refine ey_iald (cd_317 rfl) (jhm_ai hb h6 (by decide) rfl e18) ?_
    exact jk_317_b94 hb h6 e lv 
  · rw [if_neg q16] at e
    refine ey_yle (cd_317 rfl) rfl rfl q16 ?_
    refine ey_iconst (cd_317 rfl) ?_
    refine ey_goto (cd_317 rfl) rfl ?_
    exact jk_317_b94 hb h6 e lv 
set_option maxRecDepth 100000 in
theorem ok_317 {L : Nat} {xs : Nat → Int32} {b : jH} (hb : 152 ≤ b.1) (h6 : b.1 ≤ 1000000) {p0 : Int} {p1 : Int} {p2 : Int} {p3 : Int} {m : jM} {o : (Int × jM)} (e : jd_317 p0 p1 p2 p3 m = some o) : mm_Runs (mm_xt L xs) 4 317 ([jR (some 76), jI p0, jI p1, jI p2, jI p3].map jcv) (jaH (jhm b m)) (.inl (some (jcv (jI o.1)), jaH (jhm b o.2))) := by
  refine ey_run0 _ mt_317 (jsl_s rfl) ?_
  unfold jd_317 at e
  refine ey_aload_n (cd_317 rfl) rfl ?_
  refine ey_aload_n (cd_317 rfl) rfl ?_
  refine ey_iload_n (cd_317 rfl) rfl ?_
  refine ey_iload_n (cd_317 rfl) rfl ?_
  obtain ⟨v1, e2, e⟩ := jbind e
  refine ey_cv (s0 := [jI p1, jI p0, jR (some 76), jR (some 76)]) (s1 := [jR (some 76)]) (st' := [jI v1, jR (some 76)]) (cd_317 rfl) mt_317 mt_314 rfl rfl rfl (jhm_is hb) rfl (jsml_s rfl) rfl (ok_314 hb h6 e2) ?_
  by_cases q3 : (jw v1) = 0
  · rw [if_pos q3] at e
    refine ey_zeq (cd_317 rfl) rfl rfl q3 ?_
    exact jk_317_b36 hb h6 e (jlf (jla 0 [jR (some 76), jI p0, jI p1, jI p2, jI p3])) rfl rfl rfl rfl rfl
  · rw [if_neg q3] at e
    refine ey_yeq (cd_317 rfl) rfl rfl q3 ?_
    refine ey_aload_n (cd_317 rfl) rfl ?_
    refine ey_getf_r (cd_317 rfl) mt_317 rfl rfl rfl (jhm_gr (q := 83) hb rfl) ?_
    refine ey_iload_n (cd_317 rfl) rfl ?_
    obtain ⟨v9, e10, e⟩ := jbind e
    refine ey_iald (cd_317 rfl) (jhm_ai hb h6 (by decide) rfl e10) ?_
    by_cases q11 : (jw v9) = 0
    · rw [if_pos q11] at e
      refine ey_yne (cd_317 rfl) rfl rfl (fun w => w q11) ?_
      refine ey_iload_n (cd_317 rfl) rfl ?_
      refine ey_i2l (cd_317 rfl) ?_
      refine ey_lconst0 (cd_317 rfl) ?_
      refine ey_aload_n (cd_317 rfl) rfl ?_
      refine ey_iload_n (cd_317 rfl) rfl ?_
      obtain ⟨v12, e13, e⟩ := jbind e
      refine ey_cv (s0 := [jI p0, jR (some 76), jJ 0, jJ (jw p2), jR (some 76)]) (s1 := [jJ 0, jJ (jw p2), jR (some 76)]) (st' := [jI v12, jJ 0, jJ (jw p2), jR (some 76)]) (cd_317 rfl) mt_317 mt_316 rfl rfl rfl (jhm_is hb) rfl (jsml_s rfl) rfl (mm_Runs.up (d := 1) (by decide) (ok_316 hb h6 e13)) ?_
      refine ey_iconst (cd_317 rfl) ?_
      refine ey_isub (cd_317 rfl) ?_
      refine ey_i2l (cd_317 rfl) ?_
      refine ey_cs (s0 := [jJ (jw (v12 - 1)), jJ 0, jJ (jw p2), jR (some 76)]) (s1 := [jR (some 76)]) (st' := [jI (jd_204 (jw p2) 0 (jw (v12 - 1))), jR (some 76)]) (cd_317 rfl) mt_317 mt_204 rfl (by decide) rfl rfl (jsml_s rfl) rfl (mm_Runs.up (d := 1) (by decide) (ok_204 )) ?_
      have K19 : ∀ lv : jL, lv 0 = some (jR (some 76)) → lv 1 = some (jI p0) → lv 2 = some (jI p1) → lv 3 = some (jI p2) → lv 4 = some (jI p3) → ey (mm_xt L xs) 3 317 58 lv [jI (if (jw (jd_204 (jw p2) 0 (jw (v12 - 1)))) = 0 then 1 else (if (jw (jd_204 (jw p3) 0 6)) = 0 then 2 else 0)), jR (some 76)] (jhm b m) (.inl (some (jcv (jI o.1)), jaH (jhm b o.2))) := by
        intro lv g0 g1 g2 g3 g4
        exact jk_317_b58 hb h6 e lv g0 g1 g2 g3 g4
      by_cases q20 : (jw (jd_204 (jw p2) 0 (jw (v12 - 1)))) = 0
      · refine ey_yne (cd_317 rfl) rfl rfl (fun w => w q20) ?_
        refine ey_iconst (cd_317 rfl) ?_
        refine ey_goto (cd_317 rfl) rfl ?_
        exact ey_rs (s0 := [jI 1, jR (some 76)]) (s1 := [jI (if (jw (jd_204 (jw p2) 0 (jw (v12 - 1)))) = 0 then 1 else (if (jw (jd_204 (jw p3) 0 6)) = 0 then 2 else 0)), jR (some 76)]) (by rw [show ((if (jw (jd_204 (jw p2) 0 (jw (v12 - 1)))) = 0 then 1 else (if (jw (jd_204 (jw p3) 0 6)) = 0 then 2 else 0)) : Int) = 1 from (if_pos q20)]) (K19 (jlf (jla 0 [jR (some 76), jI p0, jI p1, jI p2, jI p3])) rfl rfl rfl rfl rfl)
      · refine ey_zne (cd_317 rfl) rfl rfl q20 ?_
        refine ey_iload (cd_317 rfl) rfl ?_
        refine ey_i2l (cd_317 rfl) ?_
        refine ey_lconst0 (cd_317 rfl) ?_
        refine ey_ldc2 (z := 6) (cd_317 rfl) mt_317 rfl (by decide) ?_
        refine ey_cs (s0 := [jJ 6, jJ 0, jJ (jw p3), jR (some 76)]) (s1 := [jR (some 76)]) (st' := [jI (jd_204 (jw p3) 0 6), jR (some 76)]) (cd_317 rfl) mt_317 mt_204 rfl (by decide) rfl rfl (jsml_s rfl) rfl (mm_Runs.up (d := 1) (by decide) (ok_204 )) ?_
        by_cases q21 : (jw (jd_204 (jw p3) 0 6)) = 0
        · refine ey_yne (cd_317 rfl) rfl rfl (fun w => w q21) ?_
          refine ey_iconst (cd_317 rfl) ?_
          refine ey_goto (cd_317 rfl) rfl ?_
          exact ey_rs (s0 := [jI 2, jR (some 76)]) (s1 := [jI (if (jw (jd_204 (jw p2) 0 (jw (v12 - 1)))) = 0 then 1 else (if (jw (jd_204 (jw p3) 0 6)) = 0 then 2 else 0)), jR (some 76)]) (by rw [show ((if (jw (jd_204 (jw p2) 0 (jw (v12 - 1)))) = 0 then 1 else (if (jw (jd_204 (jw p3) 0 6)) = 0 then 2 else 0)) : Int) = 2 from ((if_neg q20).trans (if_pos q21))]) (K19 (jlf (jla 0 [jR (some 76), jI p0, jI p1, jI p2, jI p3])) rfl rfl rfl rfl rfl)
        · refine ey_zne (cd_317 rfl) rfl rfl q21 ?_
          refine ey_iconst (cd_317 rfl) ?_
          exact ey_rs (s0 := [jI 0, jR (some 76)]) (s1 := [jI (if (jw (jd_204 (jw p2) 0 (jw (v12 - 1)))) = 0 then 1 else (if (jw (jd_204 (jw p3) 0 6)) = 0 then 2 else 0)), jR (some 76)]) (by rw [show ((if (jw (jd_204 (jw p2) 0 (jw (v12 - 1)))) = 0 then 1 else (if (jw (jd_204 (jw p3) 0 6)) = 0 then 2 else 0)) : Int) = 0 from ((if_neg q20).trans (if_neg q21))]) (K19 (jlf (jla 0 [jR (some 76), jI p0, jI p1, jI p2, jI p3])) rfl rfl rfl rfl rfl)
    · rw [if_neg q11] at e
      refine ey_zne (cd_317 rfl) rfl rfl q11 ?_
      exact jk_317_b36 hb h6 e (jlf (jla 0 [jR (some 76), jI p0, jI p1, jI p2, jI p3])) rfl rfl rfl rfl rfl
theorem cd_318 {pc : Nat} {i : Instr × Nat} (h : mm_lk mm_c318 pc = some i) : mm_cd 318 pc = some i := h
theorem mt_318 : mm_MT 318 = (12, 4, some .int, 2, 0, []) := rfl
set_option maxRecDepth 100000 in
theorem jk_318_s2 {L : Nat} {xs : Nat → Int32} {b : jH} (hb : 152 ≤ b.1) (h6 : b.1 ≤ 1000000) {x1 : Int} {x2 : Int} {x3 : Int} {m : jM} {o : (Int ⊕ Int)} {r : mm_R} (e : jd_318_s2 x1 x2 x3 m = some o) (K : jsm (fun s => (∀ lv : jL, lv 0 = some (jR (some 76)) → lv 1 = some (jI x1) → lv 2 = some (jI x2) → lv 3 = some (jI s) → ey (mm_xt L xs) 0 318 2 lv [] (jhm b m) r)) (fun x => (∀ lv : jL, lv 1 = some (jI x1) → lv 3 = some (jI x) → ey (mm_xt L xs) 0 318 23 lv [] (jhm b m) r)) o) : ∀ lv : jL, lv 0 = some (jR (some 76)) → lv 1 = some (jI x1) → lv 2 = some (jI x2) → lv 3 = some (jI x3) → ey (mm_xt L xs) 0 318 2 lv [] (jhm b m) r := by
  intro lv f0 f1 f2 f3
  unfold jd_318_s2 at e
  refine ey_aload_n (cd_318 rfl) f0 ?_
  refine ey_getf_r (cd_318 rfl) mt_318 rfl rfl rfl (jhm_gr (q := 91) hb rfl) ?_
  refine ey_bipush (cd_318 rfl) (by decide) ?_
  refine ey_iload_n (cd_318 rfl) f1 ?_
  refine ey_imul (cd_318 rfl) ?_
  refine ey_iload_n (cd_318 rfl) f3 ?_
  refine ey_iadd (cd_318 rfl) ?_
  obtain ⟨v1, e2, e⟩ := jbind e
  refine ey_iald (cd_318 rfl) (jhm_ai hb h6 (by decide) rfl e2) ?_
  refine ey_iload_n (cd_318 rfl) f2 ?_
  by_cases q3 : (jw v1) = (jw x2)
  · rw [if_pos q3] at e
    refine ey_ceq (cd_318 rfl) rfl rfl rfl q3 ?_
    cases e
    exact K lv f1 f3
  · rw [if_neg q3] at e
    refine ey_neq (cd_318 rfl) rfl rfl rfl q3 ?_
    refine ey_iinc (cd_318 rfl) mt_318 rfl f3 ?_
    refine ey_goto (cd_318 rfl) rfl ?_
    cases e
    exact K (jup lv 3 (jI (x3 + 1))) f0 f1 (jup_pi (lv := lv) (j := 2) (v := jI (x3 + 1)) (z := x2) f2) rfl
theorem jk_318_l2 {L : Nat} {xs : Nat → Int32} {b : jH} (hb : 152 ≤ b.1) (h6 : b.1 ≤ 1000000) {x1 : Int} {x2 : Int} {x3 : Int} {m : jM} {x : Int} {r : mm_R} (e : jd_318_l2 x1 x2 x3 m = some x) (K : (∀ lv : jL, lv 1 = some (jI x1) → lv 3 = some (jI x) → ey (mm_xt L xs) 0 318 23 lv [] (jhm b m) r)) : ∀ lv : jL, lv 0 = some (jR (some 76)) → lv 1 = some (jI x1) → lv 2 = some (jI x2) → lv 3 = some (jI x3) → ey (mm_xt L xs) 0 318 2 lv [] (jhm b m) r := by
  unfold jd_318_l2 at e
  exact jlp_ok2 (P := fun s => ∀ lv : jL, lv 0 = some (jR (some 76)) → lv 1 = some (jI x1) → lv 2 = some (jI x2) → lv 3 = some (jI s) → ey (mm_xt L xs) 0 318 2 lv [] (jhm b m) r) (Q := fun x => (∀ lv : jL, lv 1 = some (jI x1) → lv 3 = some (jI x) → ey (mm_xt L xs) 0 318 23 lv [] (jhm b m) r)) (fun s q hq hk => jk_318_s2 hb h6 hq hk) jfu _ x e K
set_option maxRecDepth 100000 in
theorem ok_318 {L : Nat} {xs : Nat → Int32} {b : jH} (hb : 152 ≤ b.1) (h6 : b.1 ≤ 1000000) {p0 : Int} {p1 : Int} {m : jM} {o : Int} (e : jd_318 p0 p1 m = some o) : mm_Runs (mm_xt L xs) 1 318 ([jR (some 76), jI p0, jI p1].map jcv) (jaH (jhm b m)) (.inl (some (jcv (jI o)), jaH (jhm b m))) := by
  refine ey_run0 _ mt_318 (jsl_s rfl) ?_
  unfold jd_318 at e
  refine ey_iconst (cd_318 rfl) ?_
  refine ey_istore_n (cd_318 rfl) mt_318 rfl ?_
  obtain ⟨x4, e5, e⟩ := jbind e
  refine jk_318_l2 hb h6 e5 ?_ (jup (jlf (jla 0 [jR (some 76), jI p0, jI p1])) 3 (jI 0)) rfl rfl (jup_pi (lv := (jlf (jla 0 [jR (some 76), jI p0, jI p1]))) (j := 2) (v := jI 0) (z := p1) rfl) rfl
  intro lv g1 g3
  refine ey_bipush (cd_318 rfl) (by decide) ?_
  refine ey_iload_n (cd_318 rfl) g1 ?_
  refine ey_imul (cd_318 rfl) ?_
  refine ey_iload_n (cd_318 rfl) g3 ?_
  refine ey_iadd (cd_318 rfl) ?_
  cases e
  exact ey_reti (cd_318 rfl) mt_318 rfl
theorem cd_319 {pc : Nat} {i : Instr × Nat} (h : mm_lk mm_c319 pc = some i) : mm_cd 319 pc = some i := h
theorem mt_319 : mm_MT 319 = (12, 6, some .int, 5, 0, []) := rfl
set_option maxRecDepth 100000 in
theorem ok_319 {L : Nat} {xs : Nat → Int32} {b : jH} (hb : 152 ≤ b.1) (h6 : b.1 ≤ 1000000) {p0 : Int} {p1 : Int} {p2 : Int} {p3 : Int} {p4 : Int} {m : jM} {o : Int} (e : jd_319 p0 p1 p2 p3 p4 m = some o) : mm_Runs (mm_xt L xs) 2 319 ([jR (some 76), jI p0, jI p1, jI p2, jI p3, jI p4].map jcv) (jaH (jhm b m)) (.inl (some (jcv (jI o)), jaH (jhm b m))) := by
  refine ey_run0 _ mt_319 (jsl_s rfl) ?_
  unfold jd_319 at e
  refine ey_sipush (cd_319 rfl) (by decide) ?_
  refine ey_aload_n (cd_319 rfl) rfl ?_
  refine ey_iload_n (cd_319 rfl) rfl ?_
  refine ey_iload_n (cd_319 rfl) rfl ?_
  obtain ⟨v1, e2, e⟩ := jbind e
  refine ey_cv (s0 := [jI p1, jI p0, jR (some 76), jI 864]) (s1 := [jI 864]) (st' := [jI v1, jI 864]) (cd_319 rfl) mt_319 mt_318 rfl rfl rfl (jhm_is hb) rfl (jsml_s rfl) rfl (ok_318 hb h6 e2) ?_
  refine ey_imul (cd_319 rfl) ?_
  refine ey_iload_n (cd_319 rfl) rfl ?_
  refine ey_cs (s0 := [jI p2, jI (864 * v1)]) (s1 := [jI (864 * v1)]) (st' := [jI (jd_207 p2), jI (864 * v1)]) (cd_319 rfl) mt_319 mt_207 rfl (by decide) rfl rfl (jsml_s rfl) rfl (ok_207 ) ?_
  refine ey_iadd (cd_319 rfl) ?_
  refine ey_iload (cd_319 rfl) rfl ?_
  refine ey_aload_n (cd_319 rfl) rfl ?_
  refine ey_getf_r (cd_319 rfl) mt_319 rfl rfl rfl (jhm_gr (q := 84) hb rfl) ?_
  refine ey_iload_n (cd_319 rfl) rfl ?_
  obtain ⟨v3, e4, e⟩ := jbind e
  refine ey_iald (cd_319 rfl) (jhm_ai hb h6 (by decide) rfl e4) ?_
  refine ey_iload_n (cd_319 rfl) rfl ?_
  refine ey_cs (s0 := [jI p2, jI v3, jI p4, jI ((864 * v1) + (jd_207 p2))]) (s1 := [jI p4, jI ((864 * v1) + (jd_207 p2))]) (st' := [jI (jd_206 v3 p2), jI p4, jI ((864 * v1) + (jd_207 p2))]) (cd_319 rfl) mt_319 mt_206 rfl (by decide) rfl rfl (jsml_s rfl) rfl (ok_206 ) ?_
  refine ey_imul (cd_319 rfl) ?_
  refine ey_iadd (cd_319 rfl) ?_
  refine ey_iload (cd_319 rfl) rfl ?_
  refine ey_iadd (cd_319 rfl) ?_
  cases e
  exact ey_reti (cd_319 rfl) mt_319 rfl
theorem cd_320 {pc : Nat} {i : Instr × Nat} (h : mm_lk mm_c320 pc = some i) : mm_cd 320 pc = some i := h
theorem mt_320 : mm_MT 320 = (12, 6, some .boolean, 5, 0, []) := rfl
set_option maxRecDepth 100000 in
theorem jk_320_b66 {L : Nat} {xs : Nat → Int32} {b : jH} (hb : 152 ≤ b.1) (h6 : b.1 ≤ 1000000)  {m : jM} {o : Int} (e : jd_320_b66  m = some o) : ∀ lv : jL, ey (mm_xt L xs) 3 320 66 lv [] (jhm b m) (.inl (some (jcv (jI o)), jaH (jhm b m))) := by
  intro lv 
  unfold jd_320_b66 at e
  refine ey_iconst (cd_320 rfl) ?_
  cases e
  exact ey_retz (cd_320 rfl) mt_320 rfl (Or.inl rfl)
set_option maxRecDepth 100000 in
theorem jk_320_b67 {L : Nat} {xs : Nat → Int32} {b : jH} (hb : 152 ≤ b.1) (h6 : b.1 ≤ 1000000) {y0 : Int} {m : jM} {o : Int} (e : jd_320_b67 y0 m = some o) : ∀ lv : jL, ey (mm_xt L xs) 3 320 67 lv [jI y0] (jhm b m) (.inl (some (jcv (jI o)), jaH (jhm b m))) := by
  intro lv 
  unfold jd_320_b67 at e
  obtain ⟨u10, e11, e⟩ := jbind e
  cases e
  exact ey_retz (cd_320 rfl) mt_320 rfl (jbc_s e11)
set_option maxRecDepth 100000 in
theorem ok_320 {L : Nat} {xs : Nat → Int32} {b : jH} (hb : 152 ≤ b.1) (h6 : b.1 ≤ 1000000) {p0 : Int} {p1 : Int} {p2 : Int} {p3 : Int} {p4 : Int} {m : jM} {o : Int} (e : jd_320 p0 p1 p2 p3 p4 m = some o) : mm_Runs (mm_xt L xs) 4 320 ([jR (some 76), jI p0, jI p1, jI p2, jI p3, jI p4].map jcv) (jaH (jhm b m)) (.inl (some (jcv (jI o)), jaH (jhm b m))) := by
  refine ey_run0 _ mt_320 (jsl_s rfl) ?_
  unfold jd_320 at e
  refine ey_aload_n (cd_320 rfl) rfl ?_
  refine ey_iload_n (cd_320 rfl) rfl ?_
  refine ey_iload_n (cd_320 rfl) rfl ?_
  obtain ⟨v1, e2, e⟩ := jbind e
  refine ey_cv (s0 := [jI p1, jI p0, jR (some 76)]) (s1 := []) (st' := [jI v1]) (cd_320 rfl) mt_320 mt_314 rfl rfl rfl (jhm_is hb) rfl (jsml_s rfl) rfl (ok_314 hb h6 e2) ?_
  by_cases q3 : (jw v1) = 0
  · rw [if_pos q3] at e
    refine ey_zeq (cd_320 rfl) rfl rfl q3 ?_
    exact jk_320_b66 hb h6 e (jlf (jla 0 [jR (some 76), jI p0, jI p1, jI p2, jI p3, jI p4])) 
  · rw [if_neg q3] at e
    refine ey_yeq (cd_320 rfl) rfl rfl q3 ?_
    refine ey_iload_n (cd_320 rfl) rfl ?_
    refine ey_cs (s0 := [jI p2]) (s1 := []) (st' := [jI (jd_211 p2)]) (cd_320 rfl) mt_320 mt_211 rfl (by decide) rfl rfl (jsml_s rfl) rfl (mm_Runs.up (d := 2) (by decide) (ok_211 )) ?_
    by_cases q4 : (jw (jd_211 p2)) = 0
    · rw [if_pos q4] at e
      refine ey_zeq (cd_320 rfl) rfl rfl q4 ?_
      exact jk_320_b66 hb h6 e (jlf (jla 0 [jR (some 76), jI p0, jI p1, jI p2, jI p3, jI p4])) 
    · rw [if_neg q4] at e
      refine ey_yeq (cd_320 rfl) rfl rfl q4 ?_
      refine ey_iload (cd_320 rfl) rfl ?_
      refine ey_i2l (cd_320 rfl) ?_
      refine ey_lconst0 (cd_320 rfl) ?_
      refine ey_aload_n (cd_320 rfl) rfl ?_
      refine ey_getf_r (cd_320 rfl) mt_320 rfl rfl rfl (jhm_gr (q := 84) hb rfl) ?_
      refine ey_iload_n (cd_320 rfl) rfl ?_
      obtain ⟨v5, e6, e⟩ := jbind e
      refine ey_iald (cd_320 rfl) (jhm_ai hb h6 (by decide) rfl e6) ?_
      refine ey_iload_n (cd_320 rfl) rfl ?_
      refine ey_cs (s0 := [jI p2, jI v5, jJ 0, jJ (jw p3)]) (s1 := [jJ 0, jJ (jw p3)]) (st' := [jI (jd_206 v5 p2), jJ 0, jJ (jw p3)]) (cd_320 rfl) mt_320 mt_206 rfl (by decide) rfl rfl (jsml_s rfl) rfl (mm_Runs.up (d := 1) (by decide) (ok_206 )) ?_
      refine ey_iconst (cd_320 rfl) ?_
      refine ey_isub (cd_320 rfl) ?_
      refine ey_i2l (cd_320 rfl) ?_
      refine ey_cs (s0 := [jJ (jw ((jd_206 v5 p2) - 1)), jJ 0, jJ (jw p3)]) (s1 := []) (st' := [jI (jd_204 (jw p3) 0 (jw ((jd_206 v5 p2) - 1)))]) (cd_320 rfl) mt_320 mt_204 rfl (by decide) rfl rfl (jsml_s rfl) rfl (mm_Runs.up (d := 1) (by decide) (ok_204 )) ?_
      by_cases q7 : (jw (jd_204 (jw p3) 0 (jw ((jd_206 v5 p2) - 1)))) = 0
      · rw [if_pos q7] at e
        refine ey_zeq (cd_320 rfl) rfl rfl q7 ?_
        exact jk_320_b66 hb h6 e (jlf (jla 0 [jR (some 76), jI p0, jI p1, jI p2, jI p3, jI p4])) 
      · rw [if_neg q7] at e
        refine ey_yeq (cd_320 rfl) rfl rfl q7 ?_
        refine ey_iload (cd_320 rfl) rfl ?_
        refine ey_i2l (cd_320 rfl) ?_
        refine ey_lconst0 (cd_320 rfl) ?_
        refine ey_aload_n (cd_320 rfl) rfl ?_
        refine ey_getf_r (cd_320 rfl) mt_320 rfl rfl rfl (jhm_gr (q := 85) hb rfl) ?_
        refine ey_iload_n (cd_320 rfl) rfl ?_
        obtain ⟨v8, e9, e⟩ := jbind e
        refine ey_iald (cd_320 rfl) (jhm_ai hb h6 (by decide) rfl e9) ?_
        refine ey_iload_n (cd_320 rfl) rfl ?_
        refine ey_cs (s0 := [jI p2, jI v8, jJ 0, jJ (jw p4)]) (s1 := [jJ 0, jJ (jw p4)]) (st' := [jI (jd_206 v8 p2), jJ 0, jJ (jw p4)]) (cd_320 rfl) mt_320 mt_206 rfl (by decide) rfl rfl (jsml_s rfl) rfl (mm_Runs.up (d := 1) (by decide) (ok_206 )) ?_
        refine ey_iconst (cd_320 rfl) ?_
        refine ey_isub (cd_320 rfl) ?_
        refine ey_i2l (cd_320 rfl) ?_
        refine ey_cs (s0 := [jJ (jw ((jd_206 v8 p2) - 1)), jJ 0, jJ (jw p4)]) (s1 := []) (st' := [jI (jd_204 (jw p4) 0 (jw ((jd_206 v8 p2) - 1)))]) (cd_320 rfl) mt_320 mt_204 rfl (by decide) rfl rfl (jsml_s rfl) rfl (mm_Runs.up (d := 1) (by decide) (ok_204 )) ?_
        have K12 : ∀ lv : jL, ey (mm_xt L xs) 3 320 67 lv [jI (if (jw (jd_204 (jw p4) 0 (jw ((jd_206 v8 p2) - 1)))) = 0 then 0 else 1)] (jhm b m) (.inl (some (jcv (jI o)), jaH (jhm b m))) := by
          intro lv 
          exact jk_320_b67 hb h6 e lv 
        by_cases q13 : (jw (jd_204 (jw p4) 0 (jw ((jd_206 v8 p2) - 1)))) = 0
        · refine ey_zeq (cd_320 rfl) rfl rfl q13 ?_
          refine ey_iconst (cd_320 rfl) ?_
          exact ey_rs (s0 := [jI 0]) (s1 := [jI (if (jw (jd_204 (jw p4) 0 (jw ((jd_206 v8 p2) - 1)))) = 0 then 0 else 1)]) (by rw [show ((if (jw (jd_204 (jw p4) 0 (jw ((jd_206 v8 p2) - 1)))) = 0 then 0 else 1) : Int) = 0 from (if_pos q13)]) (K12 (jlf (jla 0 [jR (some 76), jI p0, jI p1, jI p2, jI p3, jI p4])) )
        · refine ey_yeq (cd_320 rfl) rfl rfl q13 ?_
          refine ey_iconst (cd_320 rfl) ?_
          refine ey_goto (cd_320 rfl) rfl ?_
          exact ey_rs (s0 := [jI 1]) (s1 := [jI (if (jw (jd_204 (jw p4) 0 (jw ((jd_206 v8 p2) - 1)))) = 0 then 0 else 1)]) (by rw [show ((if (jw (jd_204 (jw p4) 0 (jw ((jd_206 v8 p2) - 1)))) = 0 then 0 else 1) : Int) = 1 from (if_neg q13)]) (K12 (jlf (jla 0 [jR (some 76), jI p0, jI p1, jI p2, jI p3, jI p4])) )
theorem cd_321 {pc : Nat} {i : Instr × Nat} (h : mm_lk mm_c321 pc = some i) : mm_cd 321 pc = some i := h
theorem mt_321 : mm_MT 321 = (12, 6, some .int, 5, 0, []) := rfl
set_option maxRecDepth 100000 in
theorem jk_321_b50 {L : Nat} {xs : Nat → Int32} {b : jH} (hb : 152 ≤ b.1) (h6 : b.1 ≤ 1000000) {y0 : Int} {m : jM} {o : (Int × jM)} (e : jd_321_b50 y0 m = some o) : ∀ lv : jL, ey (mm_xt L xs) 4 321 50 lv [jI y0] (jhm b m) (.inl (some (jcv (jI o.1)), jaH (jhm b o.2))) := by
  intro lv 
  unfold jd_321_b50 at e
  cases e
  exact ey_reti (cd_321 rfl) mt_321 rfl
set_option maxRecDepth 100000 in
theorem ok_321 {L : Nat} {xs : Nat → Int32} {b : jH} (hb : 152 ≤ b.1) (h6 : b.1 ≤ 1000000) {p0 : Int} {p1 : Int} {p2 : Int} {p3 : Int} {p4 : Int} {m : jM} {o : (Int × jM)} (e : jd_321 p0 p1 p2 p3 p4 m = some o) : mm_Runs (mm_xt L xs) 5 321 ([jR (some 76), jI p0, jI p1, jI p2, jI p3, jI p4].map jcv) (jaH (jhm b m)) (.inl (some (jcv (jI o.1)), jaH (jhm b o.2))) := by
  refine ey_run0 _ mt_321 (jsl_s rfl) ?_
  unfold jd_321 at e
  refine ey_aload_n (cd_321 rfl) rfl ?_
  refine ey_aload_n (cd_321 rfl) rfl ?_
  refine ey_iload_n (cd_321 rfl) rfl ?_
  refine ey_iload_n (cd_321 rfl) rfl ?_
  refine ey_iload_n (cd_321 rfl) rfl ?_
  refine ey_iload (cd_321 rfl) rfl ?_
  refine ey_iload (cd_321 rfl) rfl ?_
  obtain ⟨v1, e2, e⟩ := jbind e
  refine ey_cv (s0 := [jI p4, jI p3, jI p2, jI p1, jI p0, jR (some 76), jR (some 76)]) (s1 := [jR (some 76)]) (st' := [jI v1, jR (some 76)]) (cd_321 rfl) mt_321 mt_320 rfl rfl rfl (jhm_is hb) rfl (jsml_s rfl) rfl (ok_320 hb h6 e2) ?_
  have K10 : ∀ lv : jL, lv 0 = some (jR (some 76)) → lv 1 = some (jI p0) → lv 2 = some (jI p1) → lv 3 = some (jI p2) → lv 4 = some (jI p3) → lv 5 = some (jI p4) → ey (mm_xt L xs) 4 321 20 lv [jI (if (jw v1) = 0 then 1 else 0), jR (some 76)] (jhm b m) (.inl (some (jcv (jI o.1)), jaH (jhm b o.2))) := by
    intro lv g0 g1 g2 g3 g4 g5
    obtain ⟨m3, e4, e⟩ := jbind e
    refine ey_putf_i (cd_321 rfl) mt_321 rfl rfl rfl (jhm_pi' (k := 0) hb e4) ?_
    refine ey_aload_n (cd_321 rfl) g0 ?_
    refine ey_getf_i (z := (m3 76 0)) (cd_321 rfl) mt_321 rfl rfl rfl (jhm_gi hb 0) ?_
    by_cases q5 : (jw (m3 76 0)) ≤ 0
    · rw [if_pos q5] at e
      refine ey_zle (cd_321 rfl) rfl rfl q5 ?_
      refine ey_aload_n (cd_321 rfl) g0 ?_
      refine ey_getf_r (cd_321 rfl) mt_321 rfl rfl rfl (jhm_gr (q := 99) hb rfl) ?_
      refine ey_aload_n (cd_321 rfl) g0 ?_
      refine ey_iload_n (cd_321 rfl) g1 ?_
      refine ey_iload_n (cd_321 rfl) g2 ?_
      refine ey_iload_n (cd_321 rfl) g3 ?_
      refine ey_iload (cd_321 rfl) g4 ?_
      refine ey_iload (cd_321 rfl) g5 ?_
      obtain ⟨v6, e7, e⟩ := jbind e
      refine ey_cv (s0 := [jI p4, jI p3, jI p2, jI p1, jI p0, jR (some 76), jR (some 99)]) (s1 := [jR (some 99)]) (st' := [jI v6, jR (some 99)]) (cd_321 rfl) mt_321 mt_319 rfl rfl rfl (jhm_is hb) rfl (jsml_s rfl) rfl (mm_Runs.up (d := 2) (by decide) (ok_319 hb h6 e7)) ?_
      obtain ⟨v8, e9, e⟩ := jbind e
      refine ey_iald (cd_321 rfl) (jhm_ai hb h6 (by decide) rfl e9) ?_
      exact jk_321_b50 hb h6 e lv 
    · rw [if_neg q5] at e
      refine ey_yle (cd_321 rfl) rfl rfl q5 ?_
      refine ey_iconst (cd_321 rfl) ?_
      refine ey_goto (cd_321 rfl) rfl ?_
      exact jk_321_b50 hb h6 e lv 
  by_cases q11 : (jw v1) = 0
  · refine ey_zeq (cd_321 rfl) rfl rfl q11 ?_
    refine ey_iconst (cd_321 rfl) ?_
    exact ey_rs (s0 := [jI 1, jR (some 76)]) (s1 := [jI (if (jw v1) = 0 then 1 else 0), jR (some 76)]) (by rw [show ((if (jw v1) = 0 then 1 else 0) : Int) = 1 from (if_pos q11)]) (K10 (jlf (jla 0 [jR (some 76), jI p0, jI p1, jI p2, jI p3, jI p4])) rfl rfl rfl rfl rfl rfl)
  · refine ey_yeq (cd_321 rfl) rfl rfl q11 ?_
    refine ey_iconst (cd_321 rfl) ?_
    refine ey_goto (cd_321 rfl) rfl ?_
    exact ey_rs (s0 := [jI 0, jR (some 76)]) (s1 := [jI (if (jw v1) = 0 then 1 else 0), jR (some 76)]) (by rw [show ((if (jw v1) = 0 then 1 else 0) : Int) = 0 from (if_neg q11)]) (K10 (jlf (jla 0 [jR (some 76), jI p0, jI p1, jI p2, jI p3, jI p4])) rfl rfl rfl rfl rfl rfl)
theorem cd_322 {pc : Nat} {i : Instr × Nat} (h : mm_lk mm_c322 pc = some i) : mm_cd 322 pc = some i := h
theorem mt_322 : mm_MT 322 = (12, 6, some .boolean, 5, 0, []) := rfl
set_option maxRecDepth 100000 in
theorem jk_322_b54 {L : Nat} {xs : Nat → Int32} {b : jH} (hb : 152 ≤ b.1) (h6 : b.1 ≤ 1000000) {y0 : Int} {m : jM} {o : (Int × jM)} (e : jd_322_b54 y0 m = some o) : ∀ lv : jL, ey (mm_xt L xs) 4 322 54 lv [jI y0] (jhm b m) (.inl (some (jcv (jI o.1)), jaH (jhm b o.2))) := by
  intro lv 
  unfold jd_322_b54 at e
  obtain ⟨u10, e11, e⟩ := jbind e
  cases e
  exact ey_retz (cd_322 rfl) mt_322 rfl (jbc_s e11)
set_option maxRecDepth 100000 in
theorem ok_322 {L : Nat} {xs : Nat → Int32} {b : jH} (hb : 152 ≤ b.1) (h6 : b.1 ≤ 1000000) {p0 : Int} {p1 : Int} {p2 : Int} {p3 : Int} {p4 : Int} {m : jM} {o : (Int × jM)} (e : jd_322 p0 p1 p2 p3 p4 m = some o) : mm_Runs (mm_xt L xs) 5 322 ([jR (some 76), jI p0, jI p1, jI p2, jI p3, jI p4].map jcv) (jaH (jhm b m)) (.inl (some (jcv (jI o.1)), jaH (jhm b o.2))) := by
  refine ey_run0 _ mt_322 (jsl_s rfl) ?_
  unfold jd_322 at e
  refine ey_aload_n (cd_322 rfl) rfl ?_
  refine ey_aload_n (cd_322 rfl) rfl ?_
  refine ey_iload_n (cd_322 rfl) rfl ?_
  refine ey_iload_n (cd_322 rfl) rfl ?_
  refine ey_iload_n (cd_322 rfl) rfl ?_
  refine ey_iload (cd_322 rfl) rfl ?_
  refine ey_iload (cd_322 rfl) rfl ?_
  obtain ⟨v1, e2, e⟩ := jbind e
  refine ey_cv (s0 := [jI p4, jI p3, jI p2, jI p1, jI p0, jR (some 76), jR (some 76)]) (s1 := [jR (some 76)]) (st' := [jI v1, jR (some 76)]) (cd_322 rfl) mt_322 mt_320 rfl rfl rfl (jhm_is hb) rfl (jsml_s rfl) rfl (ok_320 hb h6 e2) ?_
  have K14 : ∀ lv : jL, lv 0 = some (jR (some 76)) → lv 1 = some (jI p0) → lv 2 = some (jI p1) → lv 3 = some (jI p2) → lv 4 = some (jI p3) → lv 5 = some (jI p4) → ey (mm_xt L xs) 4 322 20 lv [jI (if (jw v1) = 0 then 1 else 0), jR (some 76)] (jhm b m) (.inl (some (jcv (jI o.1)), jaH (jhm b o.2))) := by
    intro lv g0 g1 g2 g3 g4 g5
    obtain ⟨m3, e4, e⟩ := jbind e
    refine ey_putf_i (cd_322 rfl) mt_322 rfl rfl rfl (jhm_pi' (k := 0) hb e4) ?_
    refine ey_aload_n (cd_322 rfl) g0 ?_
    refine ey_getf_i (z := (m3 76 0)) (cd_322 rfl) mt_322 rfl rfl rfl (jhm_gi hb 0) ?_
    by_cases q5 : (jw (m3 76 0)) = 0
    · rw [if_pos q5] at e
      refine ey_yne (cd_322 rfl) rfl rfl (fun w => w q5) ?_
      refine ey_aload_n (cd_322 rfl) g0 ?_
      refine ey_getf_r (cd_322 rfl) mt_322 rfl rfl rfl (jhm_gr (q := 100) hb rfl) ?_
      refine ey_aload_n (cd_322 rfl) g0 ?_
      refine ey_iload_n (cd_322 rfl) g1 ?_
      refine ey_iload_n (cd_322 rfl) g2 ?_
      refine ey_iload_n (cd_322 rfl) g3 ?_
      refine ey_iload (cd_322 rfl) g4 ?_
      refine ey_iload (cd_322 rfl) g5 ?_
      obtain ⟨v6, e7, e⟩ := jbind e
      refine ey_cv (s0 := [jI p4, jI p3, jI p2, jI p1, jI p0, jR (some 76), jR (some 100)]) (s1 := [jR (some 100)]) (st' := [jI v6, jR (some 100)]) (cd_322 rfl) mt_322 mt_319 rfl rfl rfl (jhm_is hb) rfl (jsml_s rfl) rfl (mm_Runs.up (d := 2) (by decide) (ok_319 hb h6 e7)) ?_
      obtain ⟨v8, e9, e⟩ := jbind e
      refine ey_zald (cd_322 rfl) (jhm_az hb (by decide) rfl e9) ?_
      have K12 : ∀ lv : jL, ey (mm_xt L xs) 4 322 54 lv [jI (if (jw v8) = 0 then 0 else 1)] (jhm b m3) (.inl (some (jcv (jI o.1)), jaH (jhm b o.2))) := by
        intro lv 
        exact jk_322_b54 hb h6 e lv 
      by_cases q13 : (jw v8) = 0
      · refine ey_zeq (cd_322 rfl) rfl rfl q13 ?_
        refine ey_iconst (cd_322 rfl) ?_
        exact ey_rs (s0 := [jI 0]) (s1 := [jI (if (jw v8) = 0 then 0 else 1)]) (by rw [show ((if (jw v8) = 0 then 0 else 1) : Int) = 0 from (if_pos q13)]) (K12 lv )
      · refine ey_yeq (cd_322 rfl) rfl rfl q13 ?_
        refine ey_iconst (cd_322 rfl) ?_
        refine ey_goto (cd_322 rfl) rfl ?_
        exact ey_rs (s0 := [jI 1]) (s1 := [jI (if (jw v8) = 0 then 0 else 1)]) (by rw [show ((if (jw v8) = 0 then 0 else 1) : Int) = 1 from (if_neg q13)]) (K12 lv )
    · rw [if_neg q5] at e
      refine ey_zne (cd_322 rfl) rfl rfl q5 ?_
      refine ey_iconst (cd_322 rfl) ?_
      exact jk_322_b54 hb h6 e lv 
  by_cases q15 : (jw v1) = 0
  · refine ey_zeq (cd_322 rfl) rfl rfl q15 ?_
    refine ey_iconst (cd_322 rfl) ?_
    exact ey_rs (s0 := [jI 1, jR (some 76)]) (s1 := [jI (if (jw v1) = 0 then 1 else 0), jR (some 76)]) (by rw [show ((if (jw v1) = 0 then 1 else 0) : Int) = 1 from (if_pos q15)]) (K14 (jlf (jla 0 [jR (some 76), jI p0, jI p1, jI p2, jI p3, jI p4])) rfl rfl rfl rfl rfl rfl)
  · refine ey_yeq (cd_322 rfl) rfl rfl q15 ?_
    refine ey_iconst (cd_322 rfl) ?_
    refine ey_goto (cd_322 rfl) rfl ?_
    exact ey_rs (s0 := [jI 0, jR (some 76)]) (s1 := [jI (if (jw v1) = 0 then 1 else 0), jR (some 76)]) (by rw [show ((if (jw v1) = 0 then 1 else 0) : Int) = 0 from (if_neg q15)]) (K14 (jlf (jla 0 [jR (some 76), jI p0, jI p1, jI p2, jI p3, jI p4])) rfl rfl rfl rfl rfl rfl)
theorem cd_323 {pc : Nat} {i : Instr × Nat} (h : mm_lk mm_c323 pc = some i) : mm_cd 323 pc = some i := h
theorem mt_323 : mm_MT 323 = (12, 4, some .int, 2, 0, []) := rfl
set_option maxRecDepth 100000 in
theorem jk_323_s72 {L : Nat} {xs : Nat → Int32} {b : jH} (hb : 152 ≤ b.1) (h6 : b.1 ≤ 1000000) {x1 : Int} {x2 : Int} {x3 : Int} {m : jM} {o : ((Int × jM) ⊕ jM)} {r : mm_R} (e : jd_323_s72 x1 x2 x3 m = some o) (K : jsm (fun s => (∀ lv : jL, lv 0 = some (jR (some 76)) → lv 1 = some (jI x1) → lv 2 = some (jI x2) → lv 3 = some (jI s.1) → ey (mm_xt L xs) 3 323 72 lv [] (jhm b s.2) r)) (fun x => (∀ lv : jL, lv 0 = some (jR (some 76)) → ey (mm_xt L xs) 3 323 117 lv [] (jhm b x) r)) o) : ∀ lv : jL, lv 0 = some (jR (some 76)) → lv 1 = some (jI x1) → lv 2 = some (jI x2) → lv 3 = some (jI x3) → ey (mm_xt L xs) 3 323 72 lv [] (jhm b m) r := by
  intro lv f0 f1 f2 f3
  unfold jd_323_s72 at e
  refine ey_iload_n (cd_323 rfl) f3 ?_
  refine ey_sipush (cd_323 rfl) (by decide) ?_
  by_cases q14 : 864 ≤ (jw x3)
  · rw [if_pos q14] at e
    refine ey_cge (cd_323 rfl) rfl rfl (show jw 864 = 864 from by decide) q14 ?_
    cases e
    exact K lv f0
  · rw [if_neg q14] at e
    refine ey_nge (cd_323 rfl) rfl rfl (show jw 864 = 864 from by decide) q14 ?_
    refine ey_aload_n (cd_323 rfl) f0 ?_
    refine ey_getf_r (cd_323 rfl) mt_323 rfl rfl rfl (jhm_gr (q := 79) hb rfl) ?_
    refine ey_sipush (cd_323 rfl) (by decide) ?_
    refine ey_aload_n (cd_323 rfl) f0 ?_
    refine ey_getf_i (z := (m 76 1)) (cd_323 rfl) mt_323 rfl rfl rfl (jhm_gi hb 1) ?_
    refine ey_imul (cd_323 rfl) ?_
    refine ey_iload_n (cd_323 rfl) f3 ?_
    refine ey_iadd (cd_323 rfl) ?_
    refine ey_aload_n (cd_323 rfl) f0 ?_
    refine ey_getf_r (cd_323 rfl) mt_323 rfl rfl rfl (jhm_gr (q := 99) hb rfl) ?_
    refine ey_sipush (cd_323 rfl) (by decide) ?_
    refine ey_aload_n (cd_323 rfl) f0 ?_
    refine ey_iload_n (cd_323 rfl) f1 ?_
    refine ey_iload_n (cd_323 rfl) f2 ?_
    obtain ⟨v15, e16, e⟩ := jbind e
    refine ey_cv (s0 := [jI x2, jI x1, jR (some 76), jI 864, jR (some 99), jI ((864 * (m 76 1)) + x3), jR (some 79)]) (s1 := [jI 864, jR (some 99), jI ((864 * (m 76 1)) + x3), jR (some 79)]) (st' := [jI v15, jI 864, jR (some 99), jI ((864 * (m 76 1)) + x3), jR (some 79)]) (cd_323 rfl) mt_323 mt_318 rfl rfl rfl (jhm_is hb) rfl (jsml_s rfl) rfl (mm_Runs.up (d := 1) (by decide) (ok_318 hb h6 e16)) ?_
    refine ey_imul (cd_323 rfl) ?_
    refine ey_iload_n (cd_323 rfl) f3 ?_
    refine ey_iadd (cd_323 rfl) ?_
    obtain ⟨v17, e18, e⟩ := jbind e
    refine ey_iald (cd_323 rfl) (jhm_ai hb h6 (by decide) rfl e18) ?_
    obtain ⟨m19, e20, e⟩ := jbind e
    refine ey_iast (cd_323 rfl) (jhm_ta hb (by decide) rfl e20) ?_
    refine ey_iinc (cd_323 rfl) mt_323 rfl f3 ?_
    refine ey_goto (cd_323 rfl) rfl ?_
    cases e
    exact K (jup lv 3 (jI (x3 + 1))) f0 f1 (jup_pi (lv := lv) (j := 2) (v := jI (x3 + 1)) (z := x2) f2) rfl
theorem jk_323_l72 {L : Nat} {xs : Nat → Int32} {b : jH} (hb : 152 ≤ b.1) (h6 : b.1 ≤ 1000000) {x1 : Int} {x2 : Int} {x3 : Int} {m : jM} {x : jM} {r : mm_R} (e : jd_323_l72 x1 x2 x3 m = some x) (K : (∀ lv : jL, lv 0 = some (jR (some 76)) → ey (mm_xt L xs) 3 323 117 lv [] (jhm b x) r)) : ∀ lv : jL, lv 0 = some (jR (some 76)) → lv 1 = some (jI x1) → lv 2 = some (jI x2) → lv 3 = some (jI x3) → ey (mm_xt L xs) 3 323 72 lv [] (jhm b m) r := by
  unfold jd_323_l72 at e
  exact jlp_ok2 (P := fun s => ∀ lv : jL, lv 0 = some (jR (some 76)) → lv 1 = some (jI x1) → lv 2 = some (jI x2) → lv 3 = some (jI s.1) → ey (mm_xt L xs) 3 323 72 lv [] (jhm b s.2) r) (Q := fun x => (∀ lv : jL, lv 0 = some (jR (some 76)) → ey (mm_xt L xs) 3 323 117 lv [] (jhm b x) r)) (fun s q hq hk => jk_323_s72 hb h6 hq hk) jfu _ x e K
set_option maxRecDepth 100000 in
theorem jk_323_b28 {L : Nat} {xs : Nat → Int32} {b : jH} (hb : 152 ≤ b.1) (h6 : b.1 ≤ 1000000) {x1 : Int} {x2 : Int} {y0 : Int} {m : jM} {o : (Int × jM)} (e : jd_323_b28 x1 x2 y0 m = some o) : ∀ lv : jL, lv 0 = some (jR (some 76)) → lv 1 = some (jI x1) → lv 2 = some (jI x2) → ey (mm_xt L xs) 3 323 28 lv [jI y0, jR (some 76)] (jhm b m) (.inl (some (jcv (jI o.1)), jaH (jhm b o.2))) := by
  intro lv f0 f1 f2
  unfold jd_323_b28 at e
  obtain ⟨m3, e4, e⟩ := jbind e
  refine ey_putf_i (cd_323 rfl) mt_323 rfl rfl rfl (jhm_pi' (k := 0) hb e4) ?_
  refine ey_aload_n (cd_323 rfl) f0 ?_
  refine ey_getf_i (z := (m3 76 0)) (cd_323 rfl) mt_323 rfl rfl rfl (jhm_gi hb 0) ?_
  by_cases q5 : (jw (m3 76 0)) ≤ 0
  · rw [if_pos q5] at e
    refine ey_zle (cd_323 rfl) rfl rfl q5 ?_
    refine ey_aload_n (cd_323 rfl) f0 ?_
    refine ey_getf_r (cd_323 rfl) mt_323 rfl rfl rfl (jhm_gr (q := 77) hb rfl) ?_
    refine ey_aload_n (cd_323 rfl) f0 ?_
    refine ey_getf_i (z := (m3 76 1)) (cd_323 rfl) mt_323 rfl rfl rfl (jhm_gi hb 1) ?_
    refine ey_aload_n (cd_323 rfl) f0 ?_
    refine ey_getf_r (cd_323 rfl) mt_323 rfl rfl rfl (jhm_gr (q := 84) hb rfl) ?_
    refine ey_iload_n (cd_323 rfl) f1 ?_
    obtain ⟨v6, e7, e⟩ := jbind e
    refine ey_iald (cd_323 rfl) (jhm_ai hb h6 (by decide) rfl e7) ?_
    obtain ⟨m8, e9, e⟩ := jbind e
    refine ey_iast (cd_323 rfl) (jhm_ta hb (by decide) rfl e9) ?_
    refine ey_aload_n (cd_323 rfl) f0 ?_
    refine ey_getf_r (cd_323 rfl) mt_323 rfl rfl rfl (jhm_gr (q := 78) hb rfl) ?_
    refine ey_aload_n (cd_323 rfl) f0 ?_
    refine ey_getf_i (z := (m8 76 1)) (cd_323 rfl) mt_323 rfl rfl rfl (jhm_gi hb 1) ?_
    refine ey_aload_n (cd_323 rfl) f0 ?_
    refine ey_getf_r (cd_323 rfl) mt_323 rfl rfl rfl (jhm_gr (q := 85) hb rfl) ?_
    refine ey_iload_n (cd_323 rfl) f1 ?_
    obtain ⟨v10, e11, e⟩ := jbind e
    refine ey_iald (cd_323 rfl) (jhm_ai hb h6 (by decide) rfl e11) ?_
    obtain ⟨m12, e13, e⟩ := jbind e
    refine ey_iast (cd_323 rfl) (jhm_ta hb (by decide) rfl e13) ?_
    refine ey_iconst (cd_323 rfl) ?_
    refine ey_istore_n (cd_323 rfl) mt_323 rfl ?_
    obtain ⟨x21, e22, e⟩ := jbind e
    refine jk_323_l72 hb h6 e22 ?_ (jup lv 3 (jI 0)) f0 f1 (jup_pi (lv := lv) (j := 2) (v := jI 0) (z := x2) f2) rfl
    intro lv g0
    refine ey_aload_n (cd_323 rfl) g0 ?_
    refine ey_dup (cd_323 rfl) rfl ?_
    refine ey_getf_i (z := (x21 76 1)) (cd_323 rfl) mt_323 rfl rfl rfl (jhm_gi hb 1) ?_
    refine ey_iconst (cd_323 rfl) ?_
    refine ey_iadd (cd_323 rfl) ?_
    obtain ⟨m23, e24, e⟩ := jbind e
    refine ey_putf_i (cd_323 rfl) mt_323 rfl rfl rfl (jhm_pi' (k := 1) hb e24) ?_
    refine ey_aload_n (cd_323 rfl) g0 ?_
    refine ey_getf_i (z := (m23 76 1)) (cd_323 rfl) mt_323 rfl rfl rfl (jhm_gi hb 1) ?_
    refine ey_iconst (cd_323 rfl) ?_
    refine ey_isub (cd_323 rfl) ?_
    cases e
    exact ey_reti (cd_323 rfl) mt_323 rfl
  · rw [if_neg q5] at e
    refine ey_yle (cd_323 rfl) rfl rfl q5 ?_
    refine ey_iconst (cd_323 rfl) ?_
    cases e
    exact ey_reti (cd_323 rfl) mt_323 rfl
set_option maxRecDepth 100000 in
theorem ok_323 {L : Nat} {xs : Nat → Int32} {b : jH} (hb : 152 ≤ b.1) (h6 : b.1 ≤ 1000000) {p0 : Int} {p1 : Int} {m : jM} {o : (Int × jM)} (e : jd_323 p0 p1 m = some o) : mm_Runs (mm_xt L xs) 4 323 ([jR (some 76), jI p0, jI p1].map jcv) (jaH (jhm b m)) (.inl (some (jcv (jI o.1)), jaH (jhm b o.2))) := by
  refine ey_run0 _ mt_323 (jsl_s rfl) ?_
  unfold jd_323 at e
  refine ey_aload_n (cd_323 rfl) rfl ?_
  refine ey_aload_n (cd_323 rfl) rfl ?_
  refine ey_iload_n (cd_323 rfl) rfl ?_
  refine ey_iload_n (cd_323 rfl) rfl ?_
  obtain ⟨v1, e2, e⟩ := jbind e
  refine ey_cv (s0 := [jI p1, jI p0, jR (some 76), jR (some 76)]) (s1 := [jR (some 76)]) (st' := [jI v1, jR (some 76)]) (cd_323 rfl) mt_323 mt_314 rfl rfl rfl (jhm_is hb) rfl (jsml_s rfl) rfl (ok_314 hb h6 e2) ?_
  have K25 : ∀ lv : jL, lv 0 = some (jR (some 76)) → lv 1 = some (jI p0) → lv 2 = some (jI p1) → ey (mm_xt L xs) 3 323 28 lv [jI (if (jw v1) = 0 then 1 else (if (jw (m 76 1)) = 60 then 2 else 0)), jR (some 76)] (jhm b m) (.inl (some (jcv (jI o.1)), jaH (jhm b o.2))) := by
    intro lv g0 g1 g2
    exact jk_323_b28 hb h6 e lv g0 g1 g2
  by_cases q26 : (jw v1) = 0
  · refine ey_yne (cd_323 rfl) rfl rfl (fun w => w q26) ?_
    refine ey_iconst (cd_323 rfl) ?_
    refine ey_goto (cd_323 rfl) rfl ?_
    exact ey_rs (s0 := [jI 1, jR (some 76)]) (s1 := [jI (if (jw v1) = 0 then 1 else (if (jw (m 76 1)) = 60 then 2 else 0)), jR (some 76)]) (by rw [show ((if (jw v1) = 0 then 1 else (if (jw (m 76 1)) = 60 then 2 else 0)) : Int) = 1 from (if_pos q26)]) (K25 (jlf (jla 0 [jR (some 76), jI p0, jI p1])) rfl rfl rfl)
  · refine ey_zne (cd_323 rfl) rfl rfl q26 ?_
    refine ey_aload_n (cd_323 rfl) rfl ?_
    refine ey_getf_i (z := (m 76 1)) (cd_323 rfl) mt_323 rfl rfl rfl (jhm_gi hb 1) ?_
    refine ey_bipush (cd_323 rfl) (by decide) ?_
    by_cases q27 : (jw (m 76 1)) = 60
    · refine ey_nne (cd_323 rfl) rfl rfl (show jw 60 = 60 from by decide) (fun w => w q27) ?_
      refine ey_iconst (cd_323 rfl) ?_
      refine ey_goto (cd_323 rfl) rfl ?_
      exact ey_rs (s0 := [jI 2, jR (some 76)]) (s1 := [jI (if (jw v1) = 0 then 1 else (if (jw (m 76 1)) = 60 then 2 else 0)), jR (some 76)]) (by rw [show ((if (jw v1) = 0 then 1 else (if (jw (m 76 1)) = 60 then 2 else 0)) : Int) = 2 from ((if_neg q26).trans (if_pos q27))]) (K25 (jlf (jla 0 [jR (some 76), jI p0, jI p1])) rfl rfl rfl)
    · refine ey_cne (cd_323 rfl) rfl rfl (show jw 60 = 60 from by decide) q27 ?_
      refine ey_iconst (cd_323 rfl) ?_
      exact ey_rs (s0 := [jI 0, jR (some 76)]) (s1 := [jI (if (jw v1) = 0 then 1 else (if (jw (m 76 1)) = 60 then 2 else 0)), jR (some 76)]) (by rw [show ((if (jw v1) = 0 then 1 else (if (jw (m 76 1)) = 60 then 2 else 0)) : Int) = 0 from ((if_neg q26).trans (if_neg q27))]) (K25 (jlf (jla 0 [jR (some 76), jI p0, jI p1])) rfl rfl rfl)
theorem cd_324 {pc : Nat} {i : Instr × Nat} (h : mm_lk mm_c324 pc = some i) : mm_cd 324 pc = some i := h
theorem mt_324 : mm_MT 324 = (12, 7, some .int, 4, 0, []) := rfl
set_option maxRecDepth 100000 in
theorem jk_324_s68 {L : Nat} {xs : Nat → Int32} {b : jH} (hb : 152 ≤ b.1) (h6 : b.1 ≤ 1000000) {x1 : Int} {x2 : Int} {x3 : Int} {x4 : Int} {x5 : Int} {x6 : Int} {m : jM} {o : ((Int × Int) ⊕ Int)} {r : mm_R} (e : jd_324_s68 x1 x2 x3 x4 x5 x6 m = some o) (K : jsm (fun s => (∀ lv : jL, lv 0 = some (jR (some 76)) → lv 1 = some (jI x1) → lv 2 = some (jI x2) → lv 3 = some (jI x3) → lv 4 = some (jI x4) → lv 5 = some (jI s.1) → lv 6 = some (jI s.2) → ey (mm_xt L xs) 3 324 68 lv [] (jhm b m) r)) (fun x => (∀ lv : jL, lv 5 = some (jI x) → ey (mm_xt L xs) 3 324 120 lv [] (jhm b m) r)) o) : ∀ lv : jL, lv 0 = some (jR (some 76)) → lv 1 = some (jI x1) → lv 2 = some (jI x2) → lv 3 = some (jI x3) → lv 4 = some (jI x4) → lv 5 = some (jI x5) → lv 6 = some (jI x6) → ey (mm_xt L xs) 3 324 68 lv [] (jhm b m) r := by
  intro lv f0 f1 f2 f3 f4 f5 f6
  unfold jd_324_s68 at e
  refine ey_iload (cd_324 rfl) f6 ?_
  refine ey_iload_n (cd_324 rfl) f2 ?_
  by_cases q6 : (jw x2) < (jw x6)
  · rw [if_pos q6] at e
    refine ey_cgt (cd_324 rfl) rfl rfl rfl q6 ?_
    cases e
    exact K lv f5
  · rw [if_neg q6] at e
    refine ey_ngt (cd_324 rfl) rfl rfl rfl q6 ?_
    refine ey_iload (cd_324 rfl) f5 ?_
    refine ey_iload (cd_324 rfl) f4 ?_
    refine ey_iadd (cd_324 rfl) ?_
    refine ey_iload_n (cd_324 rfl) f3 ?_
    have K11 : ∀ lv : jL, lv 0 = some (jR (some 76)) → lv 1 = some (jI x1) → lv 2 = some (jI x2) → lv 3 = some (jI x3) → lv 4 = some (jI x4) → lv 6 = some (jI x6) → ey (mm_xt L xs) 3 324 92 lv [jI (if (jw x3) ≤ (jw (x5 + x4)) then x3 else (x5 + x4))] (jhm b m) r := by
      intro lv g0 g1 g2 g3 g4 g6
      obtain ⟨z7, e8, e⟩ := jbind e
      refine ey_rs (s0 := [jI (if (jw x3) ≤ (jw (x5 + x4)) then x3 else (x5 + x4))]) (s1 := [jI z7]) (by rw [show (if (jw x3) ≤ (jw (x5 + x4)) then x3 else (x5 + x4)) = z7 from Option.some.inj e8]) ?_
      refine ey_istore (cd_324 rfl) mt_324 rfl ?_
      refine ey_iload (cd_324 rfl) rfl ?_
      refine ey_bipush (cd_324 rfl) (by decide) ?_
      refine ey_aload_n (cd_324 rfl) g0 ?_
      refine ey_getf_r (cd_324 rfl) mt_324 rfl rfl rfl (jhm_gr (q := 93) hb rfl) ?_
      refine ey_bipush (cd_324 rfl) (by decide) ?_
      refine ey_iload_n (cd_324 rfl) g1 ?_
      refine ey_imul (cd_324 rfl) ?_
      refine ey_iload (cd_324 rfl) g6 ?_
      refine ey_iadd (cd_324 rfl) ?_
      obtain ⟨v9, e10, e⟩ := jbind e
      refine ey_iald (cd_324 rfl) (jhm_ai hb h6 (by decide) rfl e10) ?_
      refine ey_imul (cd_324 rfl) ?_
      refine ey_isub (cd_324 rfl) ?_
      refine ey_istore (cd_324 rfl) mt_324 rfl ?_
      refine ey_iinc (cd_324 rfl) mt_324 rfl g6 ?_
      refine ey_goto (cd_324 rfl) rfl ?_
      cases e
      exact K (jup (jup (jup lv 5 (jI z7)) 5 (jI (z7 - (8 * v9)))) 6 (jI (x6 + 1))) g0 g1 g2 g3 (jup_o rfl (jup_pi (lv := (jup lv 5 (jI z7))) (j := 4) (v := jI (z7 - (8 * v9))) (z := x4) (jup_pi (lv := lv) (j := 4) (v := jI z7) (z := x4) g4))) (jup_pi (lv := (jup (jup lv 5 (jI z7)) 5 (jI (z7 - (8 * v9))))) (j := 5) (v := jI (x6 + 1)) (z := (z7 - (8 * v9))) rfl) rfl
    by_cases q12 : (jw x3) ≤ (jw (x5 + x4))
    · refine ey_cge (cd_324 rfl) rfl rfl rfl q12 ?_
      refine ey_iload_n (cd_324 rfl) f3 ?_
      exact ey_rs (s0 := [jI x3]) (s1 := [jI (if (jw x3) ≤ (jw (x5 + x4)) then x3 else (x5 + x4))]) (by rw [show ((if (jw x3) ≤ (jw (x5 + x4)) then x3 else (x5 + x4)) : Int) = x3 from (if_pos q12)]) (K11 lv f0 f1 f2 f3 f4 f6)
    · refine ey_nge (cd_324 rfl) rfl rfl rfl q12 ?_
      refine ey_iload (cd_324 rfl) f5 ?_
      refine ey_iload (cd_324 rfl) f4 ?_
      refine ey_iadd (cd_324 rfl) ?_
      refine ey_goto (cd_324 rfl) rfl ?_
      exact ey_rs (s0 := [jI (x5 + x4)]) (s1 := [jI (if (jw x3) ≤ (jw (x5 + x4)) then x3 else (x5 + x4))]) (by rw [show ((if (jw x3) ≤ (jw (x5 + x4)) then x3 else (x5 + x4)) : Int) = (x5 + x4) from (if_neg q12)]) (K11 lv f0 f1 f2 f3 f4 f6)
theorem jk_324_l68 {L : Nat} {xs : Nat → Int32} {b : jH} (hb : 152 ≤ b.1) (h6 : b.1 ≤ 1000000) {x1 : Int} {x2 : Int} {x3 : Int} {x4 : Int} {x5 : Int} {x6 : Int} {m : jM} {x : Int} {r : mm_R} (e : jd_324_l68 x1 x2 x3 x4 x5 x6 m = some x) (K : (∀ lv : jL, lv 5 = some (jI x) → ey (mm_xt L xs) 3 324 120 lv [] (jhm b m) r)) : ∀ lv : jL, lv 0 = some (jR (some 76)) → lv 1 = some (jI x1) → lv 2 = some (jI x2) → lv 3 = some (jI x3) → lv 4 = some (jI x4) → lv 5 = some (jI x5) → lv 6 = some (jI x6) → ey (mm_xt L xs) 3 324 68 lv [] (jhm b m) r := by
  unfold jd_324_l68 at e
  exact jlp_ok2 (P := fun s => ∀ lv : jL, lv 0 = some (jR (some 76)) → lv 1 = some (jI x1) → lv 2 = some (jI x2) → lv 3 = some (jI x3) → lv 4 = some (jI x4) → lv 5 = some (jI s.1) → lv 6 = some (jI s.2) → ey (mm_xt L xs) 3 324 68 lv [] (jhm b m) r) (Q := fun x => (∀ lv : jL, lv 5 = some (jI x) → ey (mm_xt L xs) 3 324 120 lv [] (jhm b m) r)) (fun s q hq hk => jk_324_s68 hb h6 hq hk) jfu _ x e K
set_option maxRecDepth 100000 in
theorem jk_324_b48 {L : Nat} {xs : Nat → Int32} {b : jH} (hb : 152 ≤ b.1) (h6 : b.1 ≤ 1000000) {x1 : Int} {x2 : Int} {x3 : Int} {x4 : Int} {y0 : Int} {m : jM} {o : (Int × jM)} (e : jd_324_b48 x1 x2 x3 x4 y0 m = some o) : ∀ lv : jL, lv 0 = some (jR (some 76)) → lv 1 = some (jI x1) → lv 2 = some (jI x2) → lv 3 = some (jI x3) → lv 4 = some (jI x4) → ey (mm_xt L xs) 3 324 48 lv [jI y0, jR (some 76)] (jhm b m) (.inl (some (jcv (jI o.1)), jaH (jhm b o.2))) := by
  intro lv f0 f1 f2 f3 f4
  unfold jd_324_b48 at e
  obtain ⟨m3, e4, e⟩ := jbind e
  refine ey_putf_i (cd_324 rfl) mt_324 rfl rfl rfl (jhm_pi' (k := 0) hb e4) ?_
  refine ey_aload_n (cd_324 rfl) f0 ?_
  refine ey_getf_i (z := (m3 76 0)) (cd_324 rfl) mt_324 rfl rfl rfl (jhm_gi hb 0) ?_
  by_cases q5 : (jw (m3 76 0)) ≤ 0
  · rw [if_pos q5] at e
    refine ey_zle (cd_324 rfl) rfl rfl q5 ?_
    refine ey_iload_n (cd_324 rfl) f3 ?_
    refine ey_iconst (cd_324 rfl) ?_
    refine ey_idiv (cd_324 rfl) (by decide) ?_
    refine ey_istore (cd_324 rfl) mt_324 rfl ?_
    refine ey_iconst (cd_324 rfl) ?_
    refine ey_istore (cd_324 rfl) mt_324 rfl ?_
    obtain ⟨x13, e14, e⟩ := jbind e
    refine jk_324_l68 hb h6 e14 ?_ (jup (jup lv 5 (jI (jdiv x3 2))) 6 (jI 0)) f0 f1 f2 f3 (jup_o rfl (jup_pi (lv := lv) (j := 4) (v := jI (jdiv x3 2)) (z := x4) f4)) (jup_pi (lv := (jup lv 5 (jI (jdiv x3 2)))) (j := 5) (v := jI 0) (z := (jdiv x3 2)) rfl) rfl
    intro lv g5
    refine ey_iload (cd_324 rfl) g5 ?_
    cases e
    exact ey_reti (cd_324 rfl) mt_324 rfl
  · rw [if_neg q5] at e
    refine ey_yle (cd_324 rfl) rfl rfl q5 ?_
    refine ey_iconst (cd_324 rfl) ?_
    cases e
    exact ey_reti (cd_324 rfl) mt_324 rfl
set_option maxRecDepth 100000 in
theorem ok_324 {L : Nat} {xs : Nat → Int32} {b : jH} (hb : 152 ≤ b.1) (h6 : b.1 ≤ 1000000) {p0 : Int} {p1 : Int} {p2 : Int} {p3 : Int} {m : jM} {o : (Int × jM)} (e : jd_324 p0 p1 p2 p3 m = some o) : mm_Runs (mm_xt L xs) 4 324 ([jR (some 76), jI p0, jI p1, jI p2, jI p3].map jcv) (jaH (jhm b m)) (.inl (some (jcv (jI o.1)), jaH (jhm b o.2))) := by
  refine ey_run0 _ mt_324 (jsl_s rfl) ?_
  unfold jd_324 at e
  refine ey_aload_n (cd_324 rfl) rfl ?_
  refine ey_aload_n (cd_324 rfl) rfl ?_
  refine ey_iload_n (cd_324 rfl) rfl ?_
  refine ey_iload_n (cd_324 rfl) rfl ?_
  obtain ⟨v1, e2, e⟩ := jbind e
  refine ey_cv (s0 := [jI p1, jI p0, jR (some 76), jR (some 76)]) (s1 := [jR (some 76)]) (st' := [jI v1, jR (some 76)]) (cd_324 rfl) mt_324 mt_314 rfl rfl rfl (jhm_is hb) rfl (jsml_s rfl) rfl (ok_314 hb h6 e2) ?_
  have K15 : ∀ lv : jL, lv 0 = some (jR (some 76)) → lv 1 = some (jI p0) → lv 2 = some (jI p1) → lv 3 = some (jI p2) → lv 4 = some (jI p3) → ey (mm_xt L xs) 3 324 48 lv [jI (if (jw v1) = 0 then 1 else (if (jw (jd_204 (jw p2) 100 20000)) = 0 then 2 else (if (jw (jd_204 (jw p3) 50 10000)) = 0 then 2 else 0))), jR (some 76)] (jhm b m) (.inl (some (jcv (jI o.1)), jaH (jhm b o.2))) := by
    intro lv g0 g1 g2 g3 g4
    exact jk_324_b48 hb h6 e lv g0 g1 g2 g3 g4
  by_cases q16 : (jw v1) = 0
  · refine ey_yne (cd_324 rfl) rfl rfl (fun w => w q16) ?_
    refine ey_iconst (cd_324 rfl) ?_
    refine ey_goto (cd_324 rfl) rfl ?_
    exact ey_rs (s0 := [jI 1, jR (some 76)]) (s1 := [jI (if (jw v1) = 0 then 1 else (if (jw (jd_204 (jw p2) 100 20000)) = 0 then 2 else (if (jw (jd_204 (jw p3) 50 10000)) = 0 then 2 else 0))), jR (some 76)]) (by rw [show ((if (jw v1) = 0 then 1 else (if (jw (jd_204 (jw p2) 100 20000)) = 0 then 2 else (if (jw (jd_204 (jw p3) 50 10000)) = 0 then 2 else 0))) : Int) = 1 from (if_pos q16)]) (K15 (jlf (jla 0 [jR (some 76), jI p0, jI p1, jI p2, jI p3])) rfl rfl rfl rfl rfl)
  · refine ey_zne (cd_324 rfl) rfl rfl q16 ?_
    refine ey_iload_n (cd_324 rfl) rfl ?_
    refine ey_i2l (cd_324 rfl) ?_
    refine ey_ldc2 (z := 100) (cd_324 rfl) mt_324 rfl (by decide) ?_
    refine ey_ldc2 (z := 20000) (cd_324 rfl) mt_324 rfl (by decide) ?_
    refine ey_cs (s0 := [jJ 20000, jJ 100, jJ (jw p2), jR (some 76)]) (s1 := [jR (some 76)]) (st' := [jI (jd_204 (jw p2) 100 20000), jR (some 76)]) (cd_324 rfl) mt_324 mt_204 rfl (by decide) rfl rfl (jsml_s rfl) rfl (mm_Runs.up (d := 1) (by decide) (ok_204 )) ?_
    by_cases q17 : (jw (jd_204 (jw p2) 100 20000)) = 0
    · refine ey_zeq (cd_324 rfl) rfl rfl q17 ?_
      refine ey_iconst (cd_324 rfl) ?_
      refine ey_goto (cd_324 rfl) rfl ?_
      exact ey_rs (s0 := [jI 2, jR (some 76)]) (s1 := [jI (if (jw v1) = 0 then 1 else (if (jw (jd_204 (jw p2) 100 20000)) = 0 then 2 else (if (jw (jd_204 (jw p3) 50 10000)) = 0 then 2 else 0))), jR (some 76)]) (by rw [show ((if (jw v1) = 0 then 1 else (if (jw (jd_204 (jw p2) 100 20000)) = 0 then 2 else (if (jw (jd_204 (jw p3) 50 10000)) = 0 then 2 else 0))) : Int) = 2 from ((if_neg q16).trans (if_pos q17))]) (K15 (jlf (jla 0 [jR (some 76), jI p0, jI p1, jI p2, jI p3])) rfl rfl rfl rfl rfl)
    · refine ey_yeq (cd_324 rfl) rfl rfl q17 ?_
      refine ey_iload (cd_324 rfl) rfl ?_
      refine ey_i2l (cd_324 rfl) ?_
      refine ey_ldc2 (z := 50) (cd_324 rfl) mt_324 rfl (by decide) ?_
      refine ey_ldc2 (z := 10000) (cd_324 rfl) mt_324 rfl (by decide) ?_
      refine ey_cs (s0 := [jJ 10000, jJ 50, jJ (jw p3), jR (some 76)]) (s1 := [jR (some 76)]) (st' := [jI (jd_204 (jw p3) 50 10000), jR (some 76)]) (cd_324 rfl) mt_324 mt_204 rfl (by decide) rfl rfl (jsml_s rfl) rfl (mm_Runs.up (d := 1) (by decide) (ok_204 )) ?_
      by_cases q18 : (jw (jd_204 (jw p3) 50 10000)) = 0
      · refine ey_yne (cd_324 rfl) rfl rfl (fun w => w q18) ?_
        refine ey_iconst (cd_324 rfl) ?_
        refine ey_goto (cd_324 rfl) rfl ?_
        exact ey_rs (s0 := [jI 2, jR (some 76)]) (s1 := [jI (if (jw v1) = 0 then 1 else (if (jw (jd_204 (jw p2) 100 20000)) = 0 then 2 else (if (jw (jd_204 (jw p3) 50 10000)) = 0 then 2 else 0))), jR (some 76)]) (by rw [show ((if (jw v1) = 0 then 1 else (if (jw (jd_204 (jw p2) 100 20000)) = 0 then 2 else (if (jw (jd_204 (jw p3) 50 10000)) = 0 then 2 else 0))) : Int) = 2 from ((if_neg q16).trans ((if_neg q17).trans (if_pos q18)))]) (K15 (jlf (jla 0 [jR (some 76), jI p0, jI p1, jI p2, jI p3])) rfl rfl rfl rfl rfl)
      · refine ey_zne (cd_324 rfl) rfl rfl q18 ?_
        refine ey_iconst (cd_324 rfl) ?_
        exact ey_rs (s0 := [jI 0, jR (some 76)]) (s1 := [jI (if (jw v1) = 0 then 1 else (if (jw (jd_204 (jw p2) 100 20000)) = 0 then 2 else (if (jw (jd_204 (jw p3) 50 10000)) = 0 then 2 else 0))), jR (some 76)]) (by rw [show ((if (jw v1) = 0 then 1 else (if (jw (jd_204 (jw p2) 100 20000)) = 0 then 2 else (if (jw (jd_204 (jw p3) 50 10000)) = 0 then 2 else 0))) : Int) = 0 from ((if_neg q16).trans ((if_neg q17).trans (if_neg q18)))]) (K15 (jlf (jla 0 [jR (some 76), jI p0, jI p1, jI p2, jI p3])) rfl rfl rfl rfl rfl)
theorem cd_325 {pc : Nat} {i : Instr × Nat} (h : mm_lk mm_c325 pc = some i) : mm_cd 325 pc = some i := h
theorem mt_325 : mm_MT 325 = (12, 4, some .int, 3, 0, []) := rfl
set_option maxRecDepth 100000 in
theorem jk_325_b19 {L : Nat} {xs : Nat → Int32} {b : jH} (hb : 152 ≤ b.1) (h6 : b.1 ≤ 1000000) {x1 : Int} {x2 : Int} {x3 : Int} {m : jM} {o : (Int × jM)} (e : jd_325_b19 x1 x2 x3 m = some o) : ∀ lv : jL, lv 0 = some (jR (some 76)) → lv 1 = some (jI x1) → lv 2 = some (jI x2) → lv 3 = some (jI x3) → ey (mm_xt L xs) 3 325 19 lv [jR (some 76)] (jhm b m) (.inl (some (jcv (jI o.1)), jaH (jhm b o.2))) := by
  intro lv f0 f1 f2 f3
  unfold jd_325_b19 at e
  refine ey_iconst (cd_325 rfl) ?_
  refine ey_goto (cd_325 rfl) rfl ?_
  obtain ⟨m4, e5, e⟩ := jbind e
  refine ey_putf_i (cd_325 rfl) mt_325 rfl rfl rfl (jhm_pi' (k := 0) hb e5) ?_
  refine ey_aload_n (cd_325 rfl) f0 ?_
  refine ey_getf_i (z := (m4 76 0)) (cd_325 rfl) mt_325 rfl rfl rfl (jhm_gi hb 0) ?_
  by_cases q6 : (jw (m4 76 0)) ≤ 0
  · rw [if_pos q6] at e
    refine ey_zle (cd_325 rfl) rfl rfl q6 ?_
    refine ey_aload_n (cd_325 rfl) f0 ?_
    refine ey_getf_r (cd_325 rfl) mt_325 rfl rfl rfl (jhm_gr (q := 131) hb rfl) ?_
    refine ey_aload_n (cd_325 rfl) f0 ?_
    refine ey_getf_i (z := (m4 76 86)) (cd_325 rfl) mt_325 rfl rfl rfl (jhm_gi hb 86) ?_
    refine ey_iload_n (cd_325 rfl) f1 ?_
    obtain ⟨m7, e8, e⟩ := jbind e
    refine ey_iast (cd_325 rfl) (jhm_ta hb (by decide) rfl e8) ?_
    refine ey_aload_n (cd_325 rfl) f0 ?_
    refine ey_getf_r (cd_325 rfl) mt_325 rfl rfl rfl (jhm_gr (q := 132) hb rfl) ?_
    refine ey_aload_n (cd_325 rfl) f0 ?_
    refine ey_getf_i (z := (m7 76 86)) (cd_325 rfl) mt_325 rfl rfl rfl (jhm_gi hb 86) ?_
    refine ey_iload_n (cd_325 rfl) f2 ?_
    obtain ⟨m9, e10, e⟩ := jbind e
    refine ey_iast (cd_325 rfl) (jhm_ta hb (by decide) rfl e10) ?_
    refine ey_aload_n (cd_325 rfl) f0 ?_
    refine ey_getf_r (cd_325 rfl) mt_325 rfl rfl rfl (jhm_gr (q := 133) hb rfl) ?_
    refine ey_aload_n (cd_325 rfl) f0 ?_
    refine ey_getf_i (z := (m9 76 86)) (cd_325 rfl) mt_325 rfl rfl rfl (jhm_gi hb 86) ?_
    refine ey_iload_n (cd_325 rfl) f3 ?_
    obtain ⟨m11, e12, e⟩ := jbind e
    refine ey_iast (cd_325 rfl) (jhm_ta hb (by decide) rfl e12) ?_
    refine ey_aload_n (cd_325 rfl) f0 ?_
    refine ey_dup (cd_325 rfl) rfl ?_
    refine ey_getf_i (z := (m11 76 86)) (cd_325 rfl) mt_325 rfl rfl rfl (jhm_gi hb 86) ?_
    refine ey_iconst (cd_325 rfl) ?_
    refine ey_iadd (cd_325 rfl) ?_
    obtain ⟨m13, e14, e⟩ := jbind e
    refine ey_putf_i (cd_325 rfl) mt_325 rfl rfl rfl (jhm_pi' (k := 86) hb e14) ?_
    refine ey_aload_n (cd_325 rfl) f0 ?_
    refine ey_getf_i (z := (m13 76 86)) (cd_325 rfl) mt_325 rfl rfl rfl (jhm_gi hb 86) ?_
    cases e
    exact ey_reti (cd_325 rfl) mt_325 rfl
  · rw [if_neg q6] at e
    refine ey_yle (cd_325 rfl) rfl rfl q6 ?_
    refine ey_iconst (cd_325 rfl) ?_
    cases e
    exact ey_reti (cd_325 rfl) mt_325 rfl
set_option maxRecDepth 100000 in
theorem jk_325_b55 {L : Nat} {xs : Nat → Int32} {b : jH} (hb : 152 ≤ b.1) (h6 : b.1 ≤ 1000000) {x1 : Int} {x2 : Int} {x3 : Int} {y0 : Int} {m : jM} {o : (Int × jM)} (e : jd_325_b55 x1 x2 x3 y0 m = some o) : ∀ lv : jL, lv 0 = some (jR (some 76)) → lv 1 = some (jI x1) → lv 2 = some (jI x2) → lv 3 = some (jI x3) → ey (mm_xt L xs) 3 325 55 lv [jI y0, jR (some 76)] (jhm b m) (.inl (some (jcv (jI o.1)), jaH (jhm b o.2))) := by
  intro lv f0 f1 f2 f3
  unfold jd_325_b55 at e
  obtain ⟨m20, e21, e⟩ := jbind e
  refine ey_putf_i (cd_325 rfl) mt_325 rfl rfl rfl (jhm_pi' (k := 0) hb e21) ?_
  refine ey_aload_n (cd_325 rfl) f0 ?_
  refine ey_getf_i (z := (m20 76 0)) (cd_325 rfl) mt_325 rfl rfl rfl (jhm_gi hb 0) ?_
  by_cases q22 : (jw (m20 76 0)) ≤ 0
  · rw [if_pos q22] at e
    refine ey_zle (cd_325 rfl) rfl rfl q22 ?_
    refine ey_aload_n (cd_325 rfl) f0 ?_
    refine ey_getf_r (cd_325 rfl) mt_325 rfl rfl rfl (jhm_gr (q := 131) hb rfl) ?_
    refine ey_aload_n (cd_325 rfl) f0 ?_
    refine ey_getf_i (z := (m20 76 86)) (cd_325 rfl) mt_325 rfl rfl rfl (jhm_gi hb 86) ?_
    refine ey_iload_n (cd_325 rfl) f1 ?_
    obtain ⟨m23, e24, e⟩ := jbind e
    refine ey_iast (cd_325 rfl) (jhm_ta hb (by decide) rfl e24) ?_
    refine ey_aload_n (cd_325 rfl) f0 ?_
    refine ey_getf_r (cd_325 rfl) mt_325 rfl rfl rfl (jhm_gr (q := 132) hb rfl) ?_
    refine ey_aload_n (cd_325 rfl) f0 ?_
    refine ey_getf_i (z := (m23 76 86)) (cd_325 rfl) mt_325 rfl rfl rfl (jhm_gi hb 86) ?_
    refine ey_iload_n (cd_325 rfl) f2 ?_
    obtain ⟨m25, e26, e⟩ := jbind e
    refine ey_iast (cd_325 rfl) (jhm_ta hb (by decide) rfl e26) ?_
    refine ey_aload_n (cd_325 rfl) f0 ?_
    refine ey_getf_r (cd_325 rfl) mt_325 rfl rfl rfl (jhm_gr (q := 133) hb rfl) ?_
    refine ey_aload_n (cd_325 rfl) f0 ?_
    refine ey_getf_i (z := (m25 76 86)) (cd_325 rfl) mt_325 rfl rfl rfl (jhm_gi hb 86) ?_
    refine ey_iload_n (cd_325 rfl) f3 ?_
    obtain ⟨m27, e28, e⟩ := jbind e
    refine ey_iast (cd_325 rfl) (jhm_ta hb (by decide) rfl e28) ?_
    refine ey_aload_n (cd_325 rfl) f0 ?_
    refine ey_dup (cd_325 rfl) rfl ?_
    refine ey_getf_i (z := (m27 76 86)) (cd_325 rfl) mt_325 rfl rfl rfl (jhm_gi hb 86) ?_
    refine ey_iconst (cd_325 rfl) ?_
    refine ey_iadd (cd_325 rfl) ?_
    obtain ⟨m29, e30, e⟩ := jbind e
    refine ey_putf_i (cd_325 rfl) mt_325 rfl rfl rfl (jhm_pi' (k := 86) hb e30) ?_
    refine ey_aload_n (cd_325 rfl) f0 ?_
    refine ey_getf_i (z := (m29 76 86)) (cd_325 rfl) mt_325 rfl rfl rfl (jhm_gi hb 86) ?_
    cases e
    exact ey_reti (cd_325 rfl) mt_325 rfl
  · rw [if_neg q22] at e
    refine ey_yle (cd_325 rfl) rfl rfl q22 ?_
    refine ey_iconst (cd_325 rfl) ?_
    cases e
    exact ey_reti (cd_325 rfl) mt_325 rfl
set_option maxRecDepth 100000 in
theorem ok_325 {L : Nat} {xs : Nat → Int32} {b : jH} (hb : 152 ≤ b.1) (h6 : b.1 ≤ 1000000) {p0 : Int} {p1 : Int} {p2 : Int} {m : jM} {o : (Int × jM)} (e : jd_325 p0 p1 p2 m = some o) : mm_Runs (mm_xt L xs) 4 325 ([jR (some 76), jI p0, jI p1, jI p2].map jcv) (jaH (jhm b m)) (.inl (some (jcv (jI o.1)), jaH (jhm b o.2))) := by
  refine ey_run0 _ mt_325 (jsl_s rfl) ?_
  unfold jd_325 at e
  refine ey_aload_n (cd_325 rfl) rfl ?_
  refine ey_aload_n (cd_325 rfl) rfl ?_
  refine ey_iload_n (cd_325 rfl) rfl ?_
  refine ey_iload_n (cd_325 rfl) rfl ?_
  obtain ⟨v1, e2, e⟩ := jbind e
  refine ey_cv (s0 := [jI p1, jI p0, jR (some 76), jR (some 76)]) (s1 := [jR (some 76)]) (st' := [jI v1, jR (some 76)]) (cd_325 rfl) mt_325 mt_314 rfl rfl rfl (jhm_is hb) rfl (jsml_s rfl) rfl (ok_314 hb h6 e2) ?_
  by_cases q3 : (jw v1) = 0
  · rw [if_pos q3] at e
    refine ey_zeq (cd_325 rfl) rfl rfl q3 ?_
    exact jk_325_b19 hb h6 e (jlf (jla 0 [jR (some 76), jI p0, jI p1, jI p2])) rfl rfl rfl rfl
  · rw [if_neg q3] at e
    refine ey_yeq (cd_325 rfl) rfl rfl q3 ?_
    refine ey_aload_n (cd_325 rfl) rfl ?_
    refine ey_iload_n (cd_325 rfl) rfl ?_
    refine ey_iload_n (cd_325 rfl) rfl ?_
    obtain ⟨v15, e16, e⟩ := jbind e
    refine ey_cv (s0 := [jI p2, jI p0, jR (some 76), jR (some 76)]) (s1 := [jR (some 76)]) (st' := [jI v15, jR (some 76)]) (cd_325 rfl) mt_325 mt_314 rfl rfl rfl (jhm_is hb) rfl (jsml_s rfl) rfl (ok_314 hb h6 e16) ?_
    by_cases q17 : (jw v15) = 0
    · rw [if_pos q17] at e
      refine ey_yne (cd_325 rfl) rfl rfl (fun w => w q17) ?_
      exact jk_325_b19 hb h6 e (jlf (jla 0 [jR (some 76), jI p0, jI p1, jI p2])) rfl rfl rfl rfl
    · rw [if_neg q17] at e
      refine ey_zne (cd_325 rfl) rfl rfl q17 ?_
      refine ey_aload_n (cd_325 rfl) rfl ?_
      refine ey_getf_r (cd_325 rfl) mt_325 rfl rfl rfl (jhm_gr (q := 83) hb rfl) ?_
      refine ey_iload_n (cd_325 rfl) rfl ?_
      obtain ⟨v18, e19, e⟩ := jbind e
      refine ey_iald (cd_325 rfl) (jhm_ai hb h6 (by decide) rfl e19) ?_
      have K31 : ∀ lv : jL, lv 0 = some (jR (some 76)) → lv 1 = some (jI p0) → lv 2 = some (jI p1) → lv 3 = some (jI p2) → ey (mm_xt L xs) 3 325 55 lv [jI (if (jw v18) = 0 then (if (jw p1) ≤ (jw p2) then (if (jw (m 76 86)) = 8 then 3 else 0) else 2) else 2), jR (some 76)] (jhm b m) (.inl (some (jcv (jI o.1)), jaH (jhm b o.2))) := by
        intro lv g0 g1 g2 g3
        exact jk_325_b55 hb h6 e lv g0 g1 g2 g3
      by_cases q32 : (jw v18) = 0
      · refine ey_yne (cd_325 rfl) rfl rfl (fun w => w q32) ?_
        refine ey_iload_n (cd_325 rfl) rfl ?_
        refine ey_iload_n (cd_325 rfl) rfl ?_
        by_cases q33 : (jw p1) ≤ (jw p2)
        · refine ey_cge (cd_325 rfl) rfl rfl rfl q33 ?_
          refine ey_aload_n (cd_325 rfl) rfl ?_
          refine ey_getf_i (z := (m 76 86)) (cd_325 rfl) mt_325 rfl rfl rfl (jhm_gi hb 86) ?_
          refine ey_bipush (cd_325 rfl) (by decide) ?_
          by_cases q34 : (jw (m 76 86)) = 8
          · refine ey_nne (cd_325 rfl) rfl rfl (show jw 8 = 8 from by decide) (fun w => w q34) ?_
            refine ey_iconst (cd_325 rfl) ?_
            refine ey_goto (cd_325 rfl) rfl ?_
            exact ey_rs (s0 := [jI 3, jR (some 76)]) (s1 := [jI (if (jw v18) = 0 then (if (jw p1) ≤ (jw p2) then (if (jw (m 76 86)) = 8 then 3 else 0) else 2) else 2), jR (some 76)]) (by rw [show ((if (jw v18) = 0 then (if (jw p1) ≤ (jw p2) then (if (jw (m 76 86)) = 8 then 3 else 0) else 2) else 2) : Int) = 3 from ((if_pos q32).trans ((if_pos q33).trans (if_pos q34)))]) (K31 (jlf (jla 0 [jR (some 76), jI p0, jI p1, jI p2])) rfl rfl rfl rfl)
          · refine ey_cne (cd_325 rfl) rfl rfl (show jw 8 = 8 from by decide) q34 ?_
            refine ey_iconst (cd_325 rfl) ?_
            exact ey_rs (s0 := [jI 0, jR (some 76)]) (s1 := [jI (if (jw v18) = 0 then (if (jw p1) ≤ (jw p2) then (if (jw (m 76 86)) = 8 then 3 else 0) else 2) else 2), jR (some 76)]) (by rw [show ((if (jw v18) = 0 then (if (jw p1) ≤ (jw p2) then (if (jw (m 76 86)) = 8 then 3 else 0) else 2) else 2) : Int) = 0 from ((if_pos q32).trans ((if_pos q33).trans (if_neg q34)))]) (K31 (jlf (jla 0 [jR (some 76), jI p0, jI p1, jI p2])) rfl rfl rfl rfl)
        · refine ey_nge (cd_325 rfl) rfl rfl rfl q33 ?_
          refine ey_iconst (cd_325 rfl) ?_
          refine ey_goto (cd_325 rfl) rfl ?_
          exact ey_rs (s0 := [jI 2, jR (some 76)]) (s1 := [jI (if (jw v18) = 0 then (if (jw p1) ≤ (jw p2) then (if (jw (m 76 86)) = 8 then 3 else 0) else 2) else 2), jR (some 76)]) (by rw [show ((if (jw v18) = 0 then (if (jw p1) ≤ (jw p2) then (if (jw (m 76 86)) = 8 then 3 else 0) else 2) else 2) : Int) = 2 from ((if_pos q32).trans (if_neg q33))]) (K31 (jlf (jla 0 [jR (some 76), jI p0, jI p1, jI p2])) rfl rfl rfl rfl)
      · refine ey_zne (cd_325 rfl) rfl rfl q32 ?_
        refine ey_iconst (cd_325 rfl) ?_
        refine ey_goto (cd_325 rfl) rfl ?_
        exact ey_rs (s0 := [jI 2, jR (some 76)]) (s1 := [jI (if (jw v18) = 0 then (if (jw p1) ≤ (jw p2) then (if (jw (m 76 86)) = 8 then 3 else 0) else 2) else 2), jR (some 76)]) (by rw [show ((if (jw v18) = 0 then (if (jw p1) ≤ (jw p2) then (if (jw (m 76 86)) = 8 then 3 else 0) else 2) else 2) : Int) = 2 from (if_neg q32)]) (K31 (jlf (jla 0 [jR (some 76), jI p0, jI p1, jI p2])) rfl rfl rfl rfl)
theorem cd_326 {pc : Nat} {i : Instr × Nat} (h : mm_lk mm_c326 pc = some i) : mm_cd 326 pc = some i := h
theorem mt_326 : mm_MT 326 = (12, 4, some .int, 2, 0, []) := rfl
set_option maxRecDepth 100000 in
theorem jk_326_s4 {L : Nat} {xs : Nat → Int32} {b : jH} (hb : 152 ≤ b.1) (h6 : b.1 ≤ 1000000) {x1 : Int} {x3 : Int} {m : jM} {o : (Int ⊕ Int)} {r : mm_R} (e : jd_326_s4 x1 x3 m = some o) (K : jsm (fun s => (∀ lv : jL, lv 0 = some (jR (some 76)) → lv 1 = some (jI x1) → lv 3 = some (jI s) → ey (mm_xt L xs) 0 326 4 lv [] (jhm b m) r)) (fun x => (∀ lv : jL, lv 3 = some (jI x) → ey (mm_xt L xs) 0 326 34 lv [] (jhm b m) r)) o) : ∀ lv : jL, lv 0 = some (jR (some 76)) → lv 1 = some (jI x1) → lv 3 = some (jI x3) → ey (mm_xt L xs) 0 326 4 lv [] (jhm b m) r := by
  intro lv f0 f1 f3
  unfold jd_326_s4 at e
  refine ey_iload_n (cd_326 rfl) f3 ?_
  refine ey_aload_n (cd_326 rfl) f0 ?_
  refine ey_getf_r (cd_326 rfl) mt_326 rfl rfl rfl (jhm_gr (q := 87) hb rfl) ?_
  refine ey_iload_n (cd_326 rfl) f1 ?_
  obtain ⟨v1, e2, e⟩ := jbind e
  refine ey_iald (cd_326 rfl) (jhm_ai hb h6 (by decide) rfl e2) ?_
  by_cases q3 : (jw v1) ≤ (jw x3)
  · rw [if_pos q3] at e
    refine ey_cge (cd_326 rfl) rfl rfl rfl q3 ?_
    cases e
    exact K lv f3
  · rw [if_neg q3] at e
    refine ey_nge (cd_326 rfl) rfl rfl rfl q3 ?_
    refine ey_aload_n (cd_326 rfl) f0 ?_
    refine ey_getf_r (cd_326 rfl) mt_326 rfl rfl rfl (jhm_gr (q := 95) hb rfl) ?_
    refine ey_bipush (cd_326 rfl) (by decide) ?_
    refine ey_iload_n (cd_326 rfl) f1 ?_
    refine ey_imul (cd_326 rfl) ?_
    refine ey_iload_n (cd_326 rfl) f3 ?_
    refine ey_iadd (cd_326 rfl) ?_
    obtain ⟨v4, e5, e⟩ := jbind e
    refine ey_zald (cd_326 rfl) (jhm_az hb (by decide) rfl e5) ?_
    by_cases q6 : (jw v4) = 0
    · rw [if_pos q6] at e
      refine ey_yne (cd_326 rfl) rfl rfl (fun w => w q6) ?_
      refine ey_iinc (cd_326 rfl) mt_326 rfl f3 ?_
      refine ey_goto (cd_326 rfl) rfl ?_
      cases e
      exact K (jup lv 3 (jI (x3 + 1))) f0 f1 rfl
    · rw [if_neg q6] at e
      refine ey_zne (cd_326 rfl) rfl rfl q6 ?_
      cases e
      exact K lv f3
theorem jk_326_l4 {L : Nat} {xs : Nat → Int32} {b : jH} (hb : 152 ≤ b.1) (h6 : b.1 ≤ 1000000) {x1 : Int} {x3 : Int} {m : jM} {x : Int} {r : mm_R} (e : jd_326_l4 x1 x3 m = some x) (K : (∀ lv : jL, lv 3 = some (jI x) → ey (mm_xt L xs) 0 326 34 lv [] (jhm b m) r)) : ∀ lv : jL, lv 0 = some (jR (some 76)) → lv 1 = some (jI x1) → lv 3 = some (jI x3) → ey (mm_xt L xs) 0 326 4 lv [] (jhm b m) r := by
  unfold jd_326_l4 at e
  exact jlp_ok2 (P := fun s => ∀ lv : jL, lv 0 = some (jR (some 76)) → lv 1 = some (jI x1) → lv 3 = some (jI s) → ey (mm_xt L xs) 0 326 4 lv [] (jhm b m) r) (Q := fun x => (∀ lv : jL, lv 3 = some (jI x) → ey (mm_xt L xs) 0 326 34 lv [] (jhm b m) r)) (fun s q hq hk => jk_326_s4 hb h6 hq hk) jfu _ x e K
set_option maxRecDepth 100000 in
theorem ok_326 {L : Nat} {xs : Nat → Int32} {b : jH} (hb : 152 ≤ b.1) (h6 : b.1 ≤ 1000000) {p0 : Int} {p1 : Int} {m : jM} {o : Int} (e : jd_326 p0 p1 m = some o) : mm_Runs (mm_xt L xs) 1 326 ([jR (some 76), jI p0, jI p1].map jcv) (jaH (jhm b m)) (.inl (some (jcv (jI o)), jaH (jhm b m))) := by
  refine ey_run0 _ mt_326 (jsl_s rfl) ?_
  unfold jd_326 at e
  refine ey_iload_n (cd_326 rfl) rfl ?_
  refine ey_iconst (cd_326 rfl) ?_
  refine ey_iadd (cd_326 rfl) ?_
  refine ey_istore_n (cd_326 rfl) mt_326 rfl ?_
  obtain ⟨x7, e8, e⟩ := jbind e
  refine jk_326_l4 hb h6 e8 ?_ (jup (jlf (jla 0 [jR (some 76), jI p0, jI p1])) 3 (jI (p1 + 1))) rfl rfl rfl
  intro lv g3
  refine ey_iload_n (cd_326 rfl) g3 ?_
  cases e
  exact ey_reti (cd_326 rfl) mt_326 rfl
theorem cd_328 {pc : Nat} {i : Instr × Nat} (h : mm_lk mm_c328 pc = some i) : mm_cd 328 pc = some i := h
theorem mt_328 : mm_MT 328 = (12, 9, none, 4, 0, []) := rfl
set_option maxRecDepth 100000 in
theorem jk_328_b89 {L : Nat} {xs : Nat → Int32} {b : jH} (hb : 152 ≤ b.1) (h6 : b.1 ≤ 1000000) {x1 : Int} {x2 : Int} {x3 : Int} {x4 : Int} {x5 : Int} {x6 : Int} {x7 : Int} {y0 : Int} {m : jM} {o : ((Int × jM) ⊕ jM)} {r : mm_R} (e : jd_328_b89 x1 x2 x3 x4 x5 x6 x7 y0 m = some o) (K : jsm (fun s => (∀ lv : jL, lv 0 = some (jR (some 76)) → lv 1 = some (jI x1) → lv 2 = some (jI x2) → lv 3 = some (jI x3) → lv 4 = some (jI x4) → lv 5 = some (jI x5) → lv 6 = some (jI x6) → lv 7 = some (jI s.1) → ey (mm_xt L xs) 1 328 21 lv [] (jhm b s.2) r)) (fun x => (∀ lv : jL, lv 0 = some (jR (some 76)) → lv 1 = some (jI x1) → lv 2 = some (jI x2) → lv 3 = some (jI x3) → lv 4 = some (jI x4) → lv 5 = some (jI x5) → ey (mm_xt L xs) 1 328 98 lv [] (jhm b x) r)) o) : ∀ lv : jL, lv 0 = some (jR (some 76)) → lv 1 = some (jI x1) → lv 2 = some (jI x2) → lv 3 = some (jI x3) → lv 4 = some (jI x4) → lv 5 = some (jI x5) → lv 6 = some (jI x6) → lv 7 = some (jI x7) → ey (mm_xt L xs) 1 328 89 lv [jI y0, jR (some 76)] (jhm b m) r := by
  intro lv f0 f1 f2 f3 f4 f5 f6 f7
  unfold jd_328_b89 at e
  obtain ⟨m12, e13, e⟩ := jbind e
  refine ey_cv (s0 := [jI y0, jR (some 76)]) (s1 := []) (st' := []) (cd_328 rfl) mt_328 mt_292 rfl rfl rfl (jhm_is hb) rfl (jsml_s rfl) rfl (ok_292 hb h6 e13) ?_
  refine ey_iinc (cd_328 rfl) mt_328 rfl f7 ?_
  refine ey_goto (cd_328 rfl) rfl ?_
  cases e
  exact K (jup lv 7 (jI (x7 + 1))) f0 f1 f2 f3 f4 f5 (jup_pi (lv := lv) (j := 6) (v := jI (x7 + 1)) (z := x6) f6) rfl
set_option maxRecDepth 100000 in
theorem jk_328_s21 {L : Nat} {xs : Nat → Int32} {b : jH} (hb : 152 ≤ b.1) (h6 : b.1 ≤ 1000000) {x1 : Int} {x2 : Int} {x3 : Int} {x4 : Int} {x5 : Int} {x6 : Int} {x7 : Int} {m : jM} {o : ((Int × jM) ⊕ jM)} {r : mm_R} (e : jd_328_s21 x1 x2 x3 x4 x5 x6 x7 m = some o) (K : jsm (fun s => (∀ lv : jL, lv 0 = some (jR (some 76)) → lv 1 = some (jI x1) → lv 2 = some (jI x2) → lv 3 = some (jI x3) → lv 4 = some (jI x4) → lv 5 = some (jI x5) → lv 6 = some (jI x6) → lv 7 = some (jI s.1) → ey (mm_xt L xs) 1 328 21 lv [] (jhm b s.2) r)) (fun x => (∀ lv : jL, lv 0 = some (jR (some 76)) → lv 1 = some (jI x1) → lv 2 = some (jI x2) → lv 3 = some (jI x3) → lv 4 = some (jI x4) → lv 5 = some (jI x5) → ey (mm_xt L xs) 1 328 98 lv [] (jhm b x) r)) o) : ∀ lv : jL, lv 0 = some (jR (some 76)) → lv 1 = some (jI x1) → lv 2 = some (jI x2) → lv 3 = some (jI x3) → lv 4 = some (jI x4) → lv 5 = some (jI x5) → lv 6 = some (jI x6) → lv 7 = some (jI x7) → ey (mm_xt L xs) 1 328 21 lv [] (jhm b m) r := by
  intro lv f0 f1 f2 f3 f4 f5 f6 f7
  unfold jd_328_s21 at e
  refine ey_iload (cd_328 rfl) f7 ?_
  refine ey_iconst (cd_328 rfl) ?_
  refine ey_aload_n (cd_328 rfl) f0 ?_
  refine ey_getf_r (cd_328 rfl) mt_328 rfl rfl rfl (jhm_gr (q := 93) hb rfl) ?_
  refine ey_iload (cd_328 rfl) f6 ?_
  obtain ⟨v2, e3, e⟩ := jbind e
  refine ey_iald (cd_328 rfl) (jhm_ai hb h6 (by decide) rfl e3) ?_
  refine ey_iadd (cd_328 rfl) ?_
  by_cases q4 : (jw (5 + v2)) ≤ (jw x7)
  · rw [if_pos q4] at e
    refine ey_cge (cd_328 rfl) rfl rfl rfl q4 ?_
    cases e
    exact K lv f0 f1 f2 f3 f4 f5
  · rw [if_neg q4] at e
    refine ey_nge (cd_328 rfl) rfl rfl rfl q4 ?_
    refine ey_aload_n (cd_328 rfl) f0 ?_
    refine ey_getf_r (cd_328 rfl) mt_328 rfl rfl rfl (jhm_gr (q := 89) hb rfl) ?_
    refine ey_sipush (cd_328 rfl) (by decide) ?_
    refine ey_iload_n (cd_328 rfl) f1 ?_
    refine ey_imul (cd_328 rfl) ?_
    refine ey_aload_n (cd_328 rfl) f0 ?_
    refine ey_getf_r (cd_328 rfl) mt_328 rfl rfl rfl (jhm_gr (q := 94) hb rfl) ?_
    refine ey_iload (cd_328 rfl) f6 ?_
    obtain ⟨v5, e6, e⟩ := jbind e
    refine ey_iald (cd_328 rfl) (jhm_ai hb h6 (by decide) rfl e6) ?_
    refine ey_iadd (cd_328 rfl) ?_
    refine ey_iload (cd_328 rfl) f7 ?_
    refine ey_iadd (cd_328 rfl) ?_
    obtain ⟨v7, e8, e⟩ := jbind e
    refine ey_bald (cd_328 rfl) (jhm_ab hb (by decide) rfl e8) ?_
    refine ey_sipush (cd_328 rfl) (by decide) ?_
    refine ey_iand (cd_328 rfl) ?_
    refine ey_istore (cd_328 rfl) mt_328 rfl ?_
    refine ey_aload_n (cd_328 rfl) f0 ?_
    refine ey_iload (cd_328 rfl) (jup_pi (lv := lv) (j := 7) (v := jI (jand v7 255)) (z := x7) f7) ?_
    refine ey_iconst (cd_328 rfl) ?_
    by_cases q9 : (jw x7) = 1
    · rw [if_pos q9] at e
      refine ey_nne (cd_328 rfl) rfl rfl (show jw 1 = 1 from by decide) (fun w => w q9) ?_
      refine ey_aload_n (cd_328 rfl) f0 ?_
      refine ey_getf_r (cd_328 rfl) mt_328 rfl rfl rfl (jhm_gr (q := 91) hb rfl) ?_
      refine ey_iload (cd_328 rfl) f6 ?_
      obtain ⟨v10, e11, e⟩ := jbind e
      refine ey_iald (cd_328 rfl) (jhm_ai hb h6 (by decide) rfl e11) ?_
      refine ey_iload (cd_328 rfl) f4 ?_
      refine ey_isub (cd_328 rfl) ?_
      refine ey_aload_n (cd_328 rfl) f0 ?_
      refine ey_getf_i (z := (m 76 91)) (cd_328 rfl) mt_328 rfl rfl rfl (jhm_gi hb 91) ?_
      refine ey_iadd (cd_328 rfl) ?_
      refine ey_goto (cd_328 rfl) rfl ?_
      exact jk_328_b89 hb h6 e K (jup lv 8 (jI (jand v7 255))) f0 f1 f2 f3 f4 f5 f6 (jup_pi (lv := lv) (j := 7) (v := jI (jand v7 255)) (z := x7) f7)
    · rw [if_neg q9] at e
      refine ey_cne (cd_328 rfl) rfl rfl (show jw 1 = 1 from by decide) q9 ?_
      refine ey_iload (cd_328 rfl) rfl ?_
      exact jk_328_b89 hb h6 e K (jup lv 8 (jI (jand v7 255))) f0 f1 f2 f3 f4 f5 f6 (jup_pi (lv := lv) (j := 7) (v := jI (jand v7 255)) (z := x7) f7)
theorem jk_328_l21 {L : Nat} {xs : Nat → Int32} {b : jH} (hb : 152 ≤ b.1) (h6 : b.1 ≤ 1000000) {x1 : Int} {x2 : Int} {x3 : Int} {x4 : Int} {x5 : Int} {x6 : Int} {x7 : Int} {m : jM} {x : jM} {r : mm_R} (e : jd_328_l21 x1 x2 x3 x4 x5 x6 x7 m = some x) (K : (∀ lv : jL, lv 0 = some (jR (some 76)) → lv 1 = some (jI x1) → lv 2 = some (jI x2) → lv 3 = some (jI x3) → lv 4 = some (jI x4) → lv 5 = some (jI x5) → ey (mm_xt L xs) 1 328 98 lv [] (jhm b x) r)) : ∀ lv : jL, lv 0 = some (jR (some 76)) → lv 1 = some (jI x1) → lv 2 = some (jI x2) → lv 3 = some (jI x3) → lv 4 = some (jI x4) → lv 5 = some (jI x5) → lv 6 = some (jI x6) → lv 7 = some (jI x7) → ey (mm_xt L xs) 1 328 21 lv [] (jhm b m) r := by
  unfold jd_328_l21 at e
  exact jlp_ok2 (P := fun s => ∀ lv : jL, lv 0 = some (jR (some 76)) → lv 1 = some (jI x1) → lv 2 = some (jI x2) → lv 3 = some (jI x3) → lv 4 = some (jI x4) → lv 5 = some (jI x5) → lv 6 = some (jI x6) → lv 7 = some (jI s.1) → ey (mm_xt L xs) 1 328 21 lv [] (jhm b s.2) r) (Q := fun x => (∀ lv : jL, lv 0 = some (jR (some 76)) → lv 1 = some (jI x1) → lv 2 = some (jI x2) → lv 3 = some (jI x3) → lv 4 = some (jI x4) → lv 5 = some (jI x5) → ey (mm_xt L xs) 1 328 98 lv [] (jhm b x) r)) (fun s q hq hk => jk_328_s21 hb h6 hq hk) jfu _ x e K
set_option maxRecDepth 100000 in
theorem jk_328_s3 {L : Nat} {xs : Nat → Int32} {b : jH} (hb : 152 ≤ b.1) (h6 : b.1 ≤ 1000000) {x1 : Int} {x2 : Int} {x3 : Int} {x4 : Int} {x5 : Int} {m : jM} {o : ((Int × jM) ⊕ jM)} {r : mm_R} (e : jd_328_s3 x1 x2 x3 x4 x5 m = some o) (K : jsm (fun s => (∀ lv : jL, lv 0 = some (jR (some 76)) → lv 1 = some (jI x1) → lv 2 = some (jI x2) → lv 3 = some (jI x3) → lv 4 = some (jI x4) → lv 5 = some (jI s.1) → ey (mm_xt L xs) 1 328 3 lv [] (jhm b s.2) r)) (fun x => (∀ lv : jL, lv 0 = some (jR (some 76)) → lv 2 = some (jI x2) → lv 3 = some (jI x3) → ey (mm_xt L xs) 1 328 104 lv [] (jhm b x) r)) o) : ∀ lv : jL, lv 0 = some (jR (some 76)) → lv 1 = some (jI x1) → lv 2 = some (jI x2) → lv 3 = some (jI x3) → lv 4 = some (jI x4) → lv 5 = some (jI x5) → ey (mm_xt L xs) 1 328 3 lv [] (jhm b m) r := by
  intro lv f0 f1 f2 f3 f4 f5
  unfold jd_328_s3 at e
  refine ey_iload (cd_328 rfl) f5 ?_
  refine ey_iload_n (cd_328 rfl) f3 ?_
  by_cases q1 : (jw x3) ≤ (jw x5)
  · rw [if_pos q1] at e
    refine ey_cge (cd_328 rfl) rfl rfl rfl q1 ?_
    cases e
    exact K lv f0 f2 f3
  · rw [if_neg q1] at e
    refine ey_nge (cd_328 rfl) rfl rfl rfl q1 ?_
    refine ey_bipush (cd_328 rfl) (by decide) ?_
    refine ey_iload_n (cd_328 rfl) f1 ?_
    refine ey_imul (cd_328 rfl) ?_
    refine ey_iload (cd_328 rfl) f5 ?_
    refine ey_iadd (cd_328 rfl) ?_
    refine ey_istore (cd_328 rfl) mt_328 rfl ?_
    refine ey_iconst (cd_328 rfl) ?_
    refine ey_istore (cd_328 rfl) mt_328 rfl ?_
    obtain ⟨x14, e15, e⟩ := jbind e
    refine jk_328_l21 hb h6 e15 ?_ (jup (jup lv 6 (jI ((12 * x1) + x5))) 7 (jI 0)) f0 f1 f2 f3 f4 (jup_o rfl (jup_pi (lv := lv) (j := 5) (v := jI ((12 * x1) + x5)) (z := x5) f5)) (jup_pi (lv := (jup lv 6 (jI ((12 * x1) + x5)))) (j := 6) (v := jI 0) (z := ((12 * x1) + x5)) rfl) rfl
    intro lv g0 g1 g2 g3 g4 g5
    refine ey_iinc (cd_328 rfl) mt_328 rfl g5 ?_
    refine ey_goto (cd_328 rfl) rfl ?_
    cases e
    exact K (jup lv 5 (jI (x5 + 1))) g0 g1 g2 g3 (jup_pi (lv := lv) (j := 4) (v := jI (x5 + 1)) (z := x4) g4) rfl
theorem jk_328_l3 {L : Nat} {xs : Nat → Int32} {b : jH} (hb : 152 ≤ b.1) (h6 : b.1 ≤ 1000000) {x1 : Int} {x2 : Int} {x3 : Int} {x4 : Int} {x5 : Int} {m : jM} {x : jM} {r : mm_R} (e : jd_328_l3 x1 x2 x3 x4 x5 m = some x) (K : (∀ lv : jL, lv 0 = some (jR (some 76)) → lv 2 = some (jI x2) → lv 3 = some (jI x3) → ey (mm_xt L xs) 1 328 104 lv [] (jhm b x) r)) : ∀ lv : jL, lv 0 = some (jR (some 76)) → lv 1 = some (jI x1) → lv 2 = some (jI x2) → lv 3 = some (jI x3) → lv 4 = some (jI x4) → lv 5 = some (jI x5) → ey (mm_xt L xs) 1 328 3 lv [] (jhm b m) r := by
  unfold jd_328_l3 at e
  exact jlp_ok2 (P := fun s => ∀ lv : jL, lv 0 = some (jR (some 76)) → lv 1 = some (jI x1) → lv 2 = some (jI x2) → lv 3 = some (jI x3) → lv 4 = some (jI x4) → lv 5 = some (jI s.1) → ey (mm_xt L xs) 1 328 3 lv [] (jhm b s.2) r) (Q := fun x => (∀ lv : jL, lv 0 = some (jR (some 76)) → lv 2 = some (jI x2) → lv 3 = some (jI x3) → ey (mm_xt L xs) 1 328 104 lv [] (jhm b x) r)) (fun s q hq hk => jk_328_s3 hb h6 hq hk) jfu _ x e K
set_option maxRecDepth 100000 in
theorem jk_328_s107 {L : Nat} {xs : Nat → Int32} {b : jH} (hb : 152 ≤ b.1) (h6 : b.1 ≤ 1000000) {x2 : Int} {x3 : Int} {x5 : Int} {m : jM} {o : ((Int × jM) ⊕ jM)} {r : mm_R} (e : jd_328_s107 x2 x3 x5 m = some o) (K : jsm (fun s => (∀ lv : jL, lv 0 = some (jR (some 76)) → lv 2 = some (jI x2) → lv 3 = some (jI x3) → lv 5 = some (jI s.1) → ey (mm_xt L xs) 1 328 107 lv [] (jhm b s.2) r)) (fun x => (∀ lv : jL, lv 0 = some (jR (some 76)) → lv 2 = some (jI x2) → lv 3 = some (jI x3) → ey (mm_xt L xs) 1 328 134 lv [] (jhm b x) r)) o) : ∀ lv : jL, lv 0 = some (jR (some 76)) → lv 2 = some (jI x2) → lv 3 = some (jI x3) → lv 5 = some (jI x5) → ey (mm_xt L xs) 1 328 107 lv [] (jhm b m) r := by
  intro lv f0 f2 f3 f5
  unfold jd_328_s107 at e
  refine ey_iload (cd_328 rfl) f5 ?_
  refine ey_iload_n (cd_328 rfl) f3 ?_
  refine ey_iload_n (cd_328 rfl) f2 ?_
  refine ey_isub (cd_328 rfl) ?_
  by_cases q18 : (jw (x3 - x2)) ≤ (jw x5)
  · rw [if_pos q18] at e
    refine ey_cge (cd_328 rfl) rfl rfl rfl q18 ?_
    cases e
    exact K lv f0 f2 f3
  · rw [if_neg q18] at e
    refine ey_nge (cd_328 rfl) rfl rfl rfl q18 ?_
    refine ey_aload_n (cd_328 rfl) f0 ?_
    refine ey_getf_r (cd_328 rfl) mt_328 rfl rfl rfl (jhm_gr (q := 134) hb rfl) ?_
    refine ey_aload_n (cd_328 rfl) f0 ?_
    refine ey_getf_i (z := (m 76 91)) (cd_328 rfl) mt_328 rfl rfl rfl (jhm_gi hb 91) ?_
    refine ey_iload (cd_328 rfl) f5 ?_
    refine ey_iadd (cd_328 rfl) ?_
    refine ey_iconst (cd_328 rfl) ?_
    obtain ⟨m19, e20, e⟩ := jbind e
    refine ey_zast (cd_328 rfl) (jhm_ta hb (by decide) rfl e20) ?_
    refine ey_iinc (cd_328 rfl) mt_328 rfl f5 ?_
    refine ey_goto (cd_328 rfl) rfl ?_
    cases e
    exact K (jup lv 5 (jI (x5 + 1))) f0 f2 f3 rfl
theorem jk_328_l107 {L : Nat} {xs : Nat → Int32} {b : jH} (hb : 152 ≤ b.1) (h6 : b.1 ≤ 1000000) {x2 : Int} {x3 : Int} {x5 : Int} {m : jM} {x : jM} {r : mm_R} (e : jd_328_l107 x2 x3 x5 m = some x) (K : (∀ lv : jL, lv 0 = some (jR (some 76)) → lv 2 = some (jI x2) → lv 3 = some (jI x3) → ey (mm_xt L xs) 1 328 134 lv [] (jhm b x) r)) : ∀ lv : jL, lv 0 = some (jR (some 76)) → lv 2 = some (jI x2) → lv 3 = some (jI x3) → lv 5 = some (jI x5) → ey (mm_xt L xs) 1 328 107 lv [] (jhm b m) r := by
  unfold jd_328_l107 at e
  exact jlp_ok2 (P := fun s => ∀ lv : jL, lv 0 = some (jR (some 76)) → lv 2 = some (jI x2) → lv 3 = some (jI x3) → lv 5 = some (jI s.1) → ey (mm_xt L xs) 1 328 107 lv [] (jhm b s.2) r) (Q := fun x => (∀ lv : jL, lv 0 = some (jR (some 76)) → lv 2 = some (jI x2) → lv 3 = some (jI x3) → ey (mm_xt L xs) 1 328 134 lv [] (jhm b x) r)) (fun s q hq hk => jk_328_s107 hb h6 hq hk) jfu _ x e K
set_option maxRecDepth 100000 in
theorem ok_328 {L : Nat} {xs : Nat → Int32} {b : jH} (hb : 152 ≤ b.1) (h6 : b.1 ≤ 1000000) {p0 : Int} {p1 : Int} {p2 : Int} {p3 : Int} {m : jM} {o : jM} (e : jd_328 p0 p1 p2 p3 m = some o) : mm_Runs (mm_xt L xs) 2 328 ([jR (some 76), jI p0, jI p1, jI p2, jI p3].map jcv) (jaH (jhm b m)) (.inl (none, jaH (jhm b o))) := by
  refine ey_run0 _ mt_328 (jsl_s rfl) ?_
  unfold jd_328 at e
  refine ey_iload_n (cd_328 rfl) rfl ?_
  refine ey_istore (cd_328 rfl) mt_328 rfl ?_
  obtain ⟨x16, e17, e⟩ := jbind e
  refine jk_328_l3 hb h6 e17 ?_ (jup (jlf (jla 0 [jR (some 76), jI p0, jI p1, jI p2, jI p3])) 5 (jI p1)) rfl rfl rfl rfl (jup_pi (lv := (jlf (jla 0 [jR (some 76), jI p0, jI p1, jI p2, jI p3]))) (j := 4) (v := jI p1) (z := p3) rfl) rfl
  intro lv g0 g2 g3
  refine ey_iconst (cd_328 rfl) ?_
  refine ey_istore (cd_328 rfl) mt_328 rfl ?_
  obtain ⟨x21, e22, e⟩ := jbind e
  refine jk_328_l107 hb h6 e22 ?_ (jup lv 5 (jI 0)) g0 g2 g3 rfl
  intro lv g0 g2 g3
  refine ey_aload_n (cd_328 rfl) g0 ?_
  refine ey_dup (cd_328 rfl) rfl ?_
  refine ey_getf_i (z := (x21 76 91)) (cd_328 rfl) mt_328 rfl rfl rfl (jhm_gi hb 91) ?_
  refine ey_iload_n (cd_328 rfl) g3 ?_
  refine ey_iload_n (cd_328 rfl) g2 ?_
  refine ey_isub (cd_328 rfl) ?_
  refine ey_iadd (cd_328 rfl) ?_
  obtain ⟨m23, e24, e⟩ := jbind e
  refine ey_putf_i (cd_328 rfl) mt_328 rfl rfl rfl (jhm_pi' (k := 91) hb e24) ?_
  cases e
  exact ey_retv (cd_328 rfl) mt_328 rfl
theorem cd_329 {pc : Nat} {i : Instr × Nat} (h : mm_lk mm_c329 pc = some i) : mm_cd 329 pc = some i := h
theorem mt_329 : mm_MT 329 = (12, 7, some .boolean, 4, 0, []) := rfl
set_option maxRecDepth 100000 in
theorem jk_329_s13 {L : Nat} {xs : Nat → Int32} {b : jH} (hb : 152 ≤ b.1) (h6 : b.1 ≤ 1000000) {x1 : Int} {x2 : Int} {x3 : Int} {x4 : Int} {x5 : Int} {x6 : Int} {m : jM} {o : ((Int × jM) ⊕ jM)} {r : mm_R} (e : jd_329_s13 x1 x2 x3 x4 x5 x6 m = some o) (K : jsm (fun s => (∀ lv : jL, lv 0 = some (jR (some 76)) → lv 1 = some (jI x1) → lv 2 = some (jI x2) → lv 3 = some (jI x3) → lv 4 = some (jI x4) → lv 5 = some (jI x5) → lv 6 = some (jI s.1) → ey (mm_xt L xs) 10 329 13 lv [] (jhm b s.2) r)) (fun x => (∀ lv : jL, lv 0 = some (jR (some 76)) → lv 1 = some (jI x1) → lv 2 = some (jI x2) → lv 3 = some (jI x3) → lv 4 = some (jI x4) → lv 5 = some (jI x5) → ey (mm_xt L xs) 10 329 62 lv [] (jhm b x) r)) o) : ∀ lv : jL, lv 0 = some (jR (some 76)) → lv 1 = some (jI x1) → lv 2 = some (jI x2) → lv 3 = some (jI x3) → lv 4 = some (jI x4) → lv 5 = some (jI x5) → lv 6 = some (jI x6) → ey (mm_xt L xs) 10 329 13 lv [] (jhm b m) r := by
  intro lv f0 f1 f2 f3 f4 f5 f6
  unfold jd_329_s13 at e
  refine ey_iload (cd_329 rfl) f6 ?_
  refine ey_sipush (cd_329 rfl) (by decide) ?_
  by_cases q2 : 864 ≤ (jw x6)
  · rw [if_pos q2] at e
    refine ey_cge (cd_329 rfl) rfl rfl (show jw 864 = 864 from by decide) q2 ?_
    cases e
    exact K lv f0 f1 f2 f3 f4 f5
  · rw [if_neg q2] at e
    refine ey_nge (cd_329 rfl) rfl rfl (show jw 864 = 864 from by decide) q2 ?_
    refine ey_aload_n (cd_329 rfl) f0 ?_
    refine ey_getf_r (cd_329 rfl) mt_329 rfl rfl rfl (jhm_gr (q := 121) hb rfl) ?_
    refine ey_sipush (cd_329 rfl) (by decide) ?_
    refine ey_iload (cd_329 rfl) f5 ?_
    refine ey_iload_n (cd_329 rfl) f3 ?_
    refine ey_isub (cd_329 rfl) ?_
    refine ey_imul (cd_329 rfl) ?_
    refine ey_iload (cd_329 rfl) f6 ?_
    refine ey_iadd (cd_329 rfl) ?_
    refine ey_aload_n (cd_329 rfl) f0 ?_
    refine ey_getf_r (cd_329 rfl) mt_329 rfl rfl rfl (jhm_gr (q := 99) hb rfl) ?_
    refine ey_sipush (cd_329 rfl) (by decide) ?_
    refine ey_aload_n (cd_329 rfl) f0 ?_
    refine ey_iload_n (cd_329 rfl) f1 ?_
    refine ey_iload (cd_329 rfl) f5 ?_
    obtain ⟨v3, e4, e⟩ := jbind e
    refine ey_cv (s0 := [jI x5, jI x1, jR (some 76), jI 864, jR (some 99), jI ((864 * (x5 - x3)) + x6), jR (some 121)]) (s1 := [jI 864, jR (some 99), jI ((864 * (x5 - x3)) + x6), jR (some 121)]) (st' := [jI v3, jI 864, jR (some 99), jI ((864 * (x5 - x3)) + x6), jR (some 121)]) (cd_329 rfl) mt_329 mt_318 rfl rfl rfl (jhm_is hb) rfl (jsml_s rfl) rfl (mm_Runs.up (d := 1) (by decide) (ok_318 hb h6 e4)) ?_
    refine ey_imul (cd_329 rfl) ?_
    refine ey_iload (cd_329 rfl) f6 ?_
    refine ey_iadd (cd_329 rfl) ?_
    obtain ⟨v5, e6, e⟩ := jbind e
    refine ey_iald (cd_329 rfl) (jhm_ai hb h6 (by decide) rfl e6) ?_
    obtain ⟨m7, e8, e⟩ := jbind e
    refine ey_iast (cd_329 rfl) (jhm_ta hb (by decide) rfl e8) ?_
    refine ey_iinc (cd_329 rfl) mt_329 rfl f6 ?_
    refine ey_goto (cd_329 rfl) rfl ?_
    cases e
    exact K (jup lv 6 (jI (x6 + 1))) f0 f1 f2 f3 f4 (jup_pi (lv := lv) (j := 5) (v := jI (x6 + 1)) (z := x5) f5) rfl
theorem jk_329_l13 {L : Nat} {xs : Nat → Int32} {b : jH} (hb : 152 ≤ b.1) (h6 : b.1 ≤ 1000000) {x1 : Int} {x2 : Int} {x3 : Int} {x4 : Int} {x5 : Int} {x6 : Int} {m : jM} {x : jM} {r : mm_R} (e : jd_329_l13 x1 x2 x3 x4 x5 x6 m = some x) (K : (∀ lv : jL, lv 0 = some (jR (some 76)) → lv 1 = some (jI x1) → lv 2 = some (jI x2) → lv 3 = some (jI x3) → lv 4 = some (jI x4) → lv 5 = some (jI x5) → ey (mm_xt L xs) 10 329 62 lv [] (jhm b x) r)) : ∀ lv : jL, lv 0 = some (jR (some 76)) → lv 1 = some (jI x1) → lv 2 = some (jI x2) → lv 3 = some (jI x3) → lv 4 = some (jI x4) → lv 5 = some (jI x5) → lv 6 = some (jI x6) → ey (mm_xt L xs) 10 329 13 lv [] (jhm b m) r := by
  unfold jd_329_l13 at e
  exact jlp_ok2 (P := fun s => ∀ lv : jL, lv 0 = some (jR (some 76)) → lv 1 = some (jI x1) → lv 2 = some (jI x2) → lv 3 = some (jI x3) → lv 4 = some (jI x4) → lv 5 = some (jI x5) → lv 6 = some (jI s.1) → ey (mm_xt L xs) 10 329 13 lv [] (jhm b s.2) r) (Q := fun x => (∀ lv : jL, lv 0 = some (jR (some 76)) → lv 1 = some (jI x1) → lv 2 = some (jI x2) → lv 3 = some (jI x3) → lv 4 = some (jI x4) → lv 5 = some (jI x5) → ey (mm_xt L xs) 10 329 62 lv [] (jhm b x) r)) (fun s q hq hk => jk_329_s13 hb h6 hq hk) jfu _ x e K
set_option maxRecDepth 100000 in
theorem jk_329_s3 {L : Nat} {xs : Nat → Int32} {b : jH} (hb : 152 ≤ b.1) (h6 : b.1 ≤ 1000000) {x1 : Int} {x2 : Int} {x3 : Int} {x4 : Int} {x5 : Int} {m : jM} {o : ((Int × jM) ⊕ jM)} {r : mm_R} (e : jd_329_s3 x1 x2 x3 x4 x5 m = some o) (K : jsm (fun s => (∀ lv : jL, lv 0 = some (jR (some 76)) → lv 1 = some (jI x1) → lv 2 = some (jI x2) → lv 3 = some (jI x3) → lv 4 = some (jI x4) → lv 5 = some (jI s.1) → ey (mm_xt L xs) 10 329 3 lv [] (jhm b s.2) r)) (fun x => (∀ lv : jL, lv 0 = some (jR (some 76)) → lv 1 = some (jI x1) → lv 2 = some (jI x2) → lv 3 = some (jI x3) → lv 4 = some (jI x4) → ey (mm_xt L xs) 10 329 68 lv [] (jhm b x) r)) o) : ∀ lv : jL, lv 0 = some (jR (some 76)) → lv 1 = some (jI x1) → lv 2 = some (jI x2) → lv 3 = some (jI x3) → lv 4 = some (jI x4) → lv 5 = some (jI x5) → ey (mm_xt L xs) 10 329 3 lv [] (jhm b m) r := by
  intro lv f0 f1 f2 f3 f4 f5
  unfold jd_329_s3 at e
  refine ey_iload (cd_329 rfl) f5 ?_
  refine ey_iload (cd_329 rfl) f4 ?_
  by_cases q1 : (jw x4) < (jw x5)
  · rw [if_pos q1] at e
    refine ey_cgt (cd_329 rfl) rfl rfl rfl q1 ?_
    cases e
    exact K lv f0 f1 f2 f3 f4
  · rw [if_neg q1] at e
    refine ey_ngt (cd_329 rfl) rfl rfl rfl q1 ?_
    refine ey_iconst (cd_329 rfl) ?_
    refine ey_istore (cd_329 rfl) mt_329 rfl ?_
    obtain ⟨x9, e10, e⟩ := jbind e
    refine jk_329_l13 hb h6 e10 ?_ (jup lv 6 (jI 0)) f0 f1 f2 f3 f4 (jup_pi (lv := lv) (j := 5) (v := jI 0) (z := x5) f5) rfl
    intro lv g0 g1 g2 g3 g4 g5
    refine ey_iinc (cd_329 rfl) mt_329 rfl g5 ?_
    refine ey_goto (cd_329 rfl) rfl ?_
    cases e
    exact K (jup lv 5 (jI (x5 + 1))) g0 g1 g2 g3 (jup_pi (lv := lv) (j := 4) (v := jI (x5 + 1)) (z := x4) g4) rfl
theorem jk_329_l3 {L : Nat} {xs : Nat → Int32} {b : jH} (hb : 152 ≤ b.1) (h6 : b.1 ≤ 1000000) {x1 : Int} {x2 : Int} {x3 : Int} {x4 : Int} {x5 : Int} {m : jM} {x : jM} {r : mm_R} (e : jd_329_l3 x1 x2 x3 x4 x5 m = some x) (K : (∀ lv : jL, lv 0 = some (jR (some 76)) → lv 1 = some (jI x1) → lv 2 = some (jI x2) → lv 3 = some (jI x3) → lv 4 = some (jI x4) → ey (mm_xt L xs) 10 329 68 lv [] (jhm b x) r)) : ∀ lv : jL, lv 0 = some (jR (some 76)) → lv 1 = some (jI x1) → lv 2 = some (jI x2) → lv 3 = some (jI x3) → lv 4 = some (jI x4) → lv 5 = some (jI x5) → ey (mm_xt L xs) 10 329 3 lv [] (jhm b m) r := by
  unfold jd_329_l3 at e
  exact jlp_ok2 (P := fun s => ∀ lv : jL, lv 0 = some (jR (some 76)) → lv 1 = some (jI x1) → lv 2 = some (jI x2) → lv 3 = some (jI x3) → lv 4 = some (jI x4) → lv 5 = some (jI s.1) → ey (mm_xt L xs) 10 329 3 lv [] (jhm b s.2) r) (Q := fun x => (∀ lv : jL, lv 0 = some (jR (some 76)) → lv 1 = some (jI x1) → lv 2 = some (jI x2) → lv 3 = some (jI x3) → lv 4 = some (jI x4) → ey (mm_xt L xs) 10 329 68 lv [] (jhm b x) r)) (fun s q hq hk => jk_329_s3 hb h6 hq hk) jfu _ x e K
set_option maxRecDepth 100000 in
theorem jk_329_s71 {L : Nat} {xs : Nat → Int32} {b : jH} (hb : 152 ≤ b.1) (h6 : b.1 ≤ 1000000) {x1 : Int} {x2 : Int} {x3 : Int} {x4 : Int} {x5 : Int} {m : jM} {o : ((Int × jM) ⊕ jM)} {r : mm_R} (e : jd_329_s71 x1 x2 x3 x4 x5 m = some o) (K : jsm (fun s => (∀ lv : jL, lv 0 = some (jR (some 76)) → lv 1 = some (jI x1) → lv 2 = some (jI x2) → lv 3 = some (jI x3) → lv 4 = some (jI x4) → lv 5 = some (jI s.1) → ey (mm_xt L xs) 10 329 71 lv [] (jhm b s.2) r)) (fun x => (∀ lv : jL, lv 0 = some (jR (some 76)) → lv 1 = some (jI x1) → lv 2 = some (jI x2) → lv 3 = some (jI x3) → lv 4 = some (jI x4) → ey (mm_xt L xs) 10 329 99 lv [] (jhm b x) r)) o) : ∀ lv : jL, lv 0 = some (jR (some 76)) → lv 1 = some (jI x1) → lv 2 = some (jI x2) → lv 3 = some (jI x3) → lv 4 = some (jI x4) → lv 5 = some (jI x5) → ey (mm_xt L xs) 10 329 71 lv [] (jhm b m) r := by
  intro lv f0 f1 f2 f3 f4 f5
  unfold jd_329_s71 at e
  refine ey_iload (cd_329 rfl) f5 ?_
  refine ey_iload (cd_329 rfl) f4 ?_
  refine ey_iload_n (cd_329 rfl) f3 ?_
  refine ey_isub (cd_329 rfl) ?_
  by_cases q13 : (jw (x4 - x3)) < (jw x5)
  · rw [if_pos q13] at e
    refine ey_cgt (cd_329 rfl) rfl rfl rfl q13 ?_
    cases e
    exact K lv f0 f1 f2 f3 f4
  · rw [if_neg q13] at e
    refine ey_ngt (cd_329 rfl) rfl rfl rfl q13 ?_
    refine ey_aload_n (cd_329 rfl) f0 ?_
    refine ey_getf_r (cd_329 rfl) mt_329 rfl rfl rfl (jhm_gr (q := 134) hb rfl) ?_
    refine ey_aload_n (cd_329 rfl) f0 ?_
    refine ey_getf_i (z := (m 76 91)) (cd_329 rfl) mt_329 rfl rfl rfl (jhm_gi hb 91) ?_
    refine ey_iload (cd_329 rfl) f5 ?_
    refine ey_iadd (cd_329 rfl) ?_
    refine ey_iconst (cd_329 rfl) ?_
    obtain ⟨m14, e15, e⟩ := jbind e
    refine ey_zast (cd_329 rfl) (jhm_ta hb (by decide) rfl e15) ?_
    refine ey_iinc (cd_329 rfl) mt_329 rfl f5 ?_
    refine ey_goto (cd_329 rfl) rfl ?_
    cases e
    exact K (jup lv 5 (jI (x5 + 1))) f0 f1 f2 f3 (jup_pi (lv := lv) (j := 4) (v := jI (x5 + 1)) (z := x4) f4) rfl
theorem jk_329_l71 {L : Nat} {xs : Nat → Int32} {b : jH} (hb : 152 ≤ b.1) (h6 : b.1 ≤ 1000000) {x1 : Int} {x2 : Int} {x3 : Int} {x4 : Int} {x5 : Int} {m : jM} {x : jM} {r : mm_R} (e : jd_329_l71 x1 x2 x3 x4 x5 m = some x) (K : (∀ lv : jL, lv 0 = some (jR (some 76)) → lv 1 = some (jI x1) → lv 2 = some (jI x2) → lv 3 = some (jI x3) → lv 4 = some (jI x4) → ey (mm_xt L xs) 10 329 99 lv [] (jhm b x) r)) : ∀ lv : jL, lv 0 = some (jR (some 76)) → lv 1 = some (jI x1) → lv 2 = some (jI x2) → lv 3 = some (jI x3) → lv 4 = some (jI x4) → lv 5 = some (jI x5) → ey (mm_xt L xs) 10 329 71 lv [] (jhm b m) r := by
  unfold jd_329_l71 at e
  exact jlp_ok2 (P := fun s => ∀ lv : jL, lv 0 = some (jR (some 76)) → lv 1 = some (jI x1) → lv 2 = some (jI x2) → lv 3 = some (jI x3) → lv 4 = some (jI x4) → lv 5 = some (jI s.1) → ey (mm_xt L xs) 10 329 71 lv [] (jhm b s.2) r) (Q := fun x => (∀ lv : jL, lv 0 = some (jR (some 76)) → lv 1 = some (jI x1) → lv 2 = some (jI x2) → lv 3 = some (jI x3) → lv 4 = some (jI x4) → ey (mm_xt L xs) 10 329 99 lv [] (jhm b x) r)) (fun s q hq hk => jk_329_s71 hb h6 hq hk) jfu _ x e K
set_option maxRecDepth 100000 in
theorem ok_329 {L : Nat} {xs : Nat → Int32} {b : jH} (hb : 152 ≤ b.1) (h6 : b.1 ≤ 1000000) {p0 : Int} {p1 : Int} {p2 : Int} {p3 : Int} {m : jM} {o : (Int × jM)} (e : jd_329 p0 p1 p2 p3 m = some o) : mm_Runs (mm_xt L xs) 11 329 ([jR (some 76), jI p0, jI p1, jI p2, jI p3].map jcv) (jaH (jhm b m)) (.inl (some (jcv (jI o.1)), jaH (jhm b o.2))) := by
  refine ey_run0 _ mt_329 (jsl_s rfl) ?_
  unfold jd_329 at e
  refine ey_iload_n (cd_329 rfl) rfl ?_
  refine ey_istore (cd_329 rfl) mt_329 rfl ?_
  obtain ⟨x11, e12, e⟩ := jbind e
  refine jk_329_l3 hb h6 e12 ?_ (jup (jlf (jla 0 [jR (some 76), jI p0, jI p1, jI p2, jI p3])) 5 (jI p2)) rfl rfl rfl rfl (jup_pi (lv := (jlf (jla 0 [jR (some 76), jI p0, jI p1, jI p2, jI p3]))) (j := 4) (v := jI p2) (z := p3) rfl) rfl
  intro lv g0 g1 g2 g3 g4
  refine ey_iconst (cd_329 rfl) ?_
  refine ey_istore (cd_329 rfl) mt_329 rfl ?_
  obtain ⟨x16, e17, e⟩ := jbind e
  refine jk_329_l71 hb h6 e17 ?_ (jup lv 5 (jI 0)) g0 g1 g2 g3 (jup_pi (lv := lv) (j := 4) (v := jI 0) (z := p3) g4) rfl
  intro lv g0 g1 g2 g3 g4
  refine ey_aload_n (cd_329 rfl) g0 ?_
  refine ey_iconst (cd_329 rfl) ?_
  refine ey_iload (cd_329 rfl) g4 ?_
  refine ey_iload_n (cd_329 rfl) g3 ?_
  refine ey_isub (cd_329 rfl) ?_
  refine ey_iconst (cd_329 rfl) ?_
  refine ey_iadd (cd_329 rfl) ?_
  refine ey_aload_n (cd_329 rfl) g0 ?_
  refine ey_getf_i (z := (x16 76 91)) (cd_329 rfl) mt_329 rfl rfl rfl (jhm_gi hb 91) ?_
  refine ey_aload_n (cd_329 rfl) g0 ?_
  refine ey_getf_r (cd_329 rfl) mt_329 rfl rfl rfl (jhm_gr (q := 92) hb rfl) ?_
  refine ey_bipush (cd_329 rfl) (by decide) ?_
  refine ey_iload_n (cd_329 rfl) g1 ?_
  refine ey_imul (cd_329 rfl) ?_
  refine ey_iload_n (cd_329 rfl) g2 ?_
  refine ey_iadd (cd_329 rfl) ?_
  obtain ⟨v18, e19, e⟩ := jbind e
  refine ey_iald (cd_329 rfl) (jhm_ai hb h6 (by decide) rfl e19) ?_
  refine ey_iconst (cd_329 rfl) ?_
  obtain ⟨q20, e21, e⟩ := jbind e
  refine ey_cv (s0 := [jI 0, jI v18, jI (x16 76 91), jI ((p3 - p2) + 1), jI 0, jR (some 76)]) (s1 := []) (st' := [jI q20.1]) (cd_329 rfl) mt_329 mt_294 rfl rfl rfl (jhm_is hb) rfl (jsml_s rfl) rfl (ok_294 hb h6 e21) ?_
  refine ey_istore (cd_329 rfl) mt_329 rfl ?_
  refine ey_aload_n (cd_329 rfl) g0 ?_
  refine ey_dup (cd_329 rfl) rfl ?_
  refine ey_getf_i (z := (q20.2 76 91)) (cd_329 rfl) mt_329 rfl rfl rfl (jhm_gi hb 91) ?_
  refine ey_iload (cd_329 rfl) (jup_pi (lv := lv) (j := 4) (v := jI q20.1) (z := p3) g4) ?_
  refine ey_iload_n (cd_329 rfl) g3 ?_
  refine ey_isub (cd_329 rfl) ?_
  refine ey_iconst (cd_329 rfl) ?_
  refine ey_iadd (cd_329 rfl) ?_
  refine ey_iadd (cd_329 rfl) ?_
  obtain ⟨m22, e23, e⟩ := jbind e
  refine ey_putf_i (cd_329 rfl) mt_329 rfl rfl rfl (jhm_pi' (k := 91) hb e23) ?_
  refine ey_iload (cd_329 rfl) rfl ?_
  obtain ⟨u24, e25, e⟩ := jbind e
  cases e
  exact ey_retz (cd_329 rfl) mt_329 rfl (jbc_s e25)
theorem cd_327 {pc : Nat} {i : Instr × Nat} (h : mm_lk mm_c327 pc = some i) : mm_cd 327 pc = some i := h
theorem mt_327 : mm_MT 327 = (12, 10, some .boolean, 3, 0, []) := rfl
set_option maxRecDepth 100000 in
theorem jk_327_b128 {L : Nat} {xs : Nat → Int32} {b : jH} (hb : 152 ≤ b.1) (h6 : b.1 ≤ 1000000) {x1 : Int} {x2 : Int} {x3 : Int} {x5 : Int} {m : jM} {o : ((Int × jM) ⊕ (jM ⊕ jM))} {r : mm_R} (e : jd_327_b128 x1 x2 x3 x5 m = some o) (K : jsm (fun s => (∀ lv : jL, lv 0 = some (jR (some 76)) → lv 1 = some (jI x1) → lv 2 = some (jI x2) → lv 3 = some (jI x3) → lv 4 = some (jI s.1) → ey (mm_xt L xs) 11 327 3 lv [] (jhm b s.2) r)) (fun x => (jsm (fun y => (∀ lv : jL, ey (mm_xt L xs) 11 327 126 lv [] (jhm b y) r)) (fun z => (∀ lv : jL, ey (mm_xt L xs) 11 327 135 lv [] (jhm b z) r)) x)) o) : ∀ lv : jL, lv 0 = some (jR (some 76)) → lv 1 = some (jI x1) → lv 2 = some (jI x2) → lv 3 = some (jI x3) → lv 5 = some (jI x5) → ey (mm_xt L xs) 11 327 128 lv [] (jhm b m) r := by
  intro lv f0 f1 f2 f3 f5
  unfold jd_327_b128 at e
  refine ey_iload (cd_327 rfl) f5 ?_
  refine ey_istore (cd_327 rfl) mt_327 rfl ?_
  refine ey_goto (cd_327 rfl) rfl ?_
  cases e
  exact K (jup lv 4 (jI x5)) f0 f1 f2 (jup_pi (lv := lv) (j := 3) (v := jI x5) (z := x3) f3) rfl
set_option maxRecDepth 100000 in
theorem jk_327_b112 {L : Nat} {xs : Nat → Int32} {b : jH} (hb : 152 ≤ b.1) (h6 : b.1 ≤ 1000000) {x1 : Int} {x2 : Int} {x3 : Int} {x4 : Int} {x5 : Int} {x8 : Int} {x9 : Int} {m : jM} {o : ((Int × jM) ⊕ (jM ⊕ jM))} {r : mm_R} (e : jd_327_b112 x1 x2 x3 x4 x5 x8 x9 m = some o) (K : jsm (fun s => (∀ lv : jL, lv 0 = some (jR (some 76)) → lv 1 = some (jI x1) → lv 2 = some (jI x2) → lv 3 = some (jI x3) → lv 4 = some (jI s.1) → ey (mm_xt L xs) 11 327 3 lv [] (jhm b s.2) r)) (fun x => (jsm (fun y => (∀ lv : jL, ey (mm_xt L xs) 11 327 126 lv [] (jhm b y) r)) (fun z => (∀ lv : jL, ey (mm_xt L xs) 11 327 135 lv [] (jhm b z) r)) x)) o) : ∀ lv : jL, lv 0 = some (jR (some 76)) → lv 1 = some (jI x1) → lv 2 = some (jI x2) → lv 3 = some (jI x3) → lv 4 = some (jI x4) → lv 5 = some (jI x5) → lv 8 = some (jI x8) → lv 9 = some (jI x9) → ey (mm_xt L xs) 11 327 112 lv [] (jhm b m) r := by
  intro lv f0 f1 f2 f3 f4 f5 f8 f9
  unfold jd_327_b112 at e
  refine ey_aload_n (cd_327 rfl) f0 ?_
  refine ey_iload_n (cd_327 rfl) f1 ?_
  refine ey_iload (cd_327 rfl) f4 ?_
  refine ey_iload (cd_327 rfl) f8 ?_
  refine ey_iload (cd_327 rfl) f9 ?_
  obtain ⟨q15, e16, e⟩ := jbind e
  refine ey_cv (s0 := [jI x9, jI x8, jI x4, jI x1, jR (some 76)]) (s1 := []) (st' := [jI q15.1]) (cd_327 rfl) mt_327 mt_329 rfl rfl rfl (jhm_is hb) rfl (jsml_s rfl) rfl (ok_329 hb h6 e16) ?_
  by_cases q17 : (jw q15.1) = 0
  · rw [if_pos q17] at e
    refine ey_yne (cd_327 rfl) rfl rfl (fun w => w q17) ?_
    cases e
    exact K lv 
  · rw [if_neg q17] at e
    refine ey_zne (cd_327 rfl) rfl rfl q17 ?_
    exact jk_327_b128 hb h6 e K lv f0 f1 f2 f3 f5
set_option maxRecDepth 100000 in
theorem jk_327_b75 {L : Nat} {xs : Nat → Int32} {b : jH} (hb : 152 ≤ b.1) (h6 : b.1 ≤ 1000000) {x1 : Int} {x2 : Int} {x3 : Int} {x4 : Int} {x5 : Int} {x6 : Int} {x7 : Int} {x8 : Int} {y0 : Int} {m : jM} {o : ((Int × jM) ⊕ (jM ⊕ jM))} {r : mm_R} (e : jd_327_b75 x1 x2 x3 x4 x5 x6 x7 x8 y0 m = some o) (K : jsm (fun s => (∀ lv : jL, lv 0 = some (jR (some 76)) → lv 1 = some (jI x1) → lv 2 = some (jI x2) → lv 3 = some (jI x3) → lv 4 = some (jI s.1) → ey (mm_xt L xs) 11 327 3 lv [] (jhm b s.2) r)) (fun x => (jsm (fun y => (∀ lv : jL, ey (mm_xt L xs) 11 327 126 lv [] (jhm b y) r)) (fun z => (∀ lv : jL, ey (mm_xt L xs) 11 327 135 lv [] (jhm b z) r)) x)) o) : ∀ lv : jL, lv 0 = some (jR (some 76)) → lv 1 = some (jI x1) → lv 2 = some (jI x2) → lv 3 = some (jI x3) → lv 4 = some (jI x4) → lv 5 = some (jI x5) → lv 6 = some (jI x6) → lv 7 = some (jI x7) → lv 8 = some (jI x8) → ey (mm_xt L xs) 11 327 75 lv [jI y0] (jhm b m) r := by
  intro lv f0 f1 f2 f3 f4 f5 f6 f7 f8
  unfold jd_327_b75 at e
  refine ey_istore (cd_327 rfl) mt_327 rfl ?_
  refine ey_iload (cd_327 rfl) (jup_pi (lv := lv) (j := 8) (v := jI y0) (z := x8) f8) ?_
  refine ey_iload (cd_327 rfl) rfl ?_
  by_cases q10 : (jw y0) < (jw x8)
  · rw [if_pos q10] at e
    refine ey_cgt (cd_327 rfl) rfl rfl rfl q10 ?_
    exact jk_327_b128 hb h6 e K (jup lv 9 (jI y0)) f0 f1 f2 f3 f5
  · rw [if_neg q10] at e
    refine ey_ngt (cd_327 rfl) rfl rfl rfl q10 ?_
    refine ey_iload (cd_327 rfl) (jup_pi (lv := lv) (j := 8) (v := jI y0) (z := x8) f8) ?_
    refine ey_iload (cd_327 rfl) f6 ?_
    by_cases q11 : (jw x8) = (jw x6)
    · rw [if_pos q11] at e
      refine ey_nne (cd_327 rfl) rfl rfl rfl (fun w => w q11) ?_
      refine ey_iload (cd_327 rfl) rfl ?_
      refine ey_iload (cd_327 rfl) f7 ?_
      by_cases q12 : (jw y0) = (jw x7)
      · rw [if_pos q12] at e
        refine ey_nne (cd_327 rfl) rfl rfl rfl (fun w => w q12) ?_
        refine ey_aload_n (cd_327 rfl) f0 ?_
        refine ey_iload_n (cd_327 rfl) f1 ?_
        refine ey_iload (cd_327 rfl) f4 ?_
        refine ey_iload (cd_327 rfl) f5 ?_
        refine ey_iload (cd_327 rfl) f6 ?_
        obtain ⟨m13, e14, e⟩ := jbind e
        refine ey_cv (s0 := [jI x6, jI x5, jI x4, jI x1, jR (some 76)]) (s1 := []) (st' := []) (cd_327 rfl) mt_327 mt_328 rfl rfl rfl (jhm_is hb) rfl (jsml_s rfl) rfl (mm_Runs.up (d := 2) (by decide) (ok_328 hb h6 e14)) ?_
        refine ey_goto (cd_327 rfl) rfl ?_
        exact jk_327_b128 hb h6 e K (jup lv 9 (jI y0)) f0 f1 f2 f3 f5
      · rw [if_neg q12] at e
        refine ey_cne (cd_327 rfl) rfl rfl rfl q12 ?_
        exact jk_327_b112 hb h6 e K (jup lv 9 (jI y0)) f0 f1 f2 f3 f4 f5 (jup_pi (lv := lv) (j := 8) (v := jI y0) (z := x8) f8) rfl
    · rw [if_neg q11] at e
      refine ey_cne (cd_327 rfl) rfl rfl rfl q11 ?_
      exact jk_327_b112 hb h6 e K (jup lv 9 (jI y0)) f0 f1 f2 f3 f4 f5 (jup_pi (lv := lv) (j := 8) (v := jI y0) (z := x8) f8) rfl
set_option maxRecDepth 100000 in
theorem jk_327_s3 {L : Nat} {xs : Nat → Int32} {b : jH} (hb : 152 ≤ b.1) (h6 : b.1 ≤ 1000000) {x1 : Int} {x2 : Int} {x3 : Int} {x4 : Int} {m : jM} {o : ((Int × jM) ⊕ (jM ⊕ jM))} {r : mm_R} (e : jd_327_s3 x1 x2 x3 x4 m = some o) (K : jsm (fun s => (∀ lv : jL, lv 0 = some (jR (some 76)) → lv 1 = some (jI x1) → lv 2 = some (jI x2) → lv 3 = some (jI x3) → lv 4 = some (jI s.1) → ey (mm_xt L xs) 11 327 3 lv [] (jhm b s.2) r)) (fun x => (jsm (fun y => (∀ lv : jL, ey (mm_xt L xs) 11 327 126 lv [] (jhm b y) r)) (fun z => (∀ lv : jL, ey (mm_xt L xs) 11 327 135 lv [] (jhm b z) r)) x)) o) : ∀ lv : jL, lv 0 = some (jR (some 76)) → lv 1 = some (jI x1) → lv 2 = some (jI x2) → lv 3 = some (jI x3) → lv 4 = some (jI x4) → ey (mm_xt L xs) 11 327 3 lv [] (jhm b m) r := by
  intro lv f0 f1 f2 f3 f4
  unfold jd_327_s3 at e
  refine ey_iload (cd_327 rfl) f4 ?_
  refine ey_aload_n (cd_327 rfl) f0 ?_
  refine ey_getf_r (cd_327 rfl) mt_327 rfl rfl rfl (jhm_gr (q := 87) hb rfl) ?_
  refine ey_iload_n (cd_327 rfl) f1 ?_
  obtain ⟨v1, e2, e⟩ := jbind e
  refine ey_iald (cd_327 rfl) (jhm_ai hb h6 (by decide) rfl e2) ?_
  by_cases q3 : (jw v1) ≤ (jw x4)
  · rw [if_pos q3] at e
    refine ey_cge (cd_327 rfl) rfl rfl rfl q3 ?_
    cases e
    exact K lv 
  · rw [if_neg q3] at e
    refine ey_nge (cd_327 rfl) rfl rfl rfl q3 ?_
    refine ey_aload_n (cd_327 rfl) f0 ?_
    refine ey_iload_n (cd_327 rfl) f1 ?_
    refine ey_iload (cd_327 rfl) f4 ?_
    obtain ⟨v4, e5, e⟩ := jbind e
    refine ey_cv (s0 := [jI x4, jI x1, jR (some 76)]) (s1 := []) (st' := [jI v4]) (cd_327 rfl) mt_327 mt_326 rfl rfl rfl (jhm_is hb) rfl (jsml_s rfl) rfl (mm_Runs.up (d := 1) (by decide) (ok_326 hb h6 e5)) ?_
    refine ey_istore (cd_327 rfl) mt_327 rfl ?_
    refine ey_aload_n (cd_327 rfl) f0 ?_
    refine ey_getf_r (cd_327 rfl) mt_327 rfl rfl rfl (jhm_gr (q := 91) hb rfl) ?_
    refine ey_bipush (cd_327 rfl) (by decide) ?_
    refine ey_iload_n (cd_327 rfl) f1 ?_
    refine ey_imul (cd_327 rfl) ?_
    refine ey_iload (cd_327 rfl) (jup_pi (lv := lv) (j := 4) (v := jI v4) (z := x4) f4) ?_
    refine ey_iadd (cd_327 rfl) ?_
    obtain ⟨v6, e7, e⟩ := jbind e
    refine ey_iald (cd_327 rfl) (jhm_ai hb h6 (by decide) rfl e7) ?_
    refine ey_istore (cd_327 rfl) mt_327 rfl ?_
    refine ey_iload (cd_327 rfl) rfl ?_
    refine ey_iload (cd_327 rfl) (jup_pi (lv := (jup lv 5 (jI v4))) (j := 5) (v := jI v6) (z := v4) rfl) ?_
    refine ey_iadd (cd_327 rfl) ?_
    refine ey_iload (cd_327 rfl) (jup_o rfl (jup_pi (lv := lv) (j := 4) (v := jI v4) (z := x4) f4)) ?_
    refine ey_isub (cd_327 rfl) ?_
    refine ey_iconst (cd_327 rfl) ?_
    refine ey_isub (cd_327 rfl) ?_
    refine ey_istore (cd_327 rfl) mt_327 rfl ?_
    refine ey_iload (cd_327 rfl) (jup_pi (lv := (jup (jup lv 5 (jI v4)) 6 (jI v6))) (j := 6) (v := jI (((v6 + v4) - x4) - 1)) (z := v6) rfl) ?_
    refine ey_iload_n (cd_327 rfl) f2 ?_
    have K20 : ∀ lv : jL, lv 0 = some (jR (some 76)) → lv 1 = some (jI x1) → lv 2 = some (jI x2) → lv 3 = some (jI x3) → lv 4 = some (jI x4) → lv 5 = some (jI v4) → lv 6 = some (jI v6) → lv 7 = some (jI (((v6 + v4) - x4) - 1)) → ey (mm_xt L xs) 11 327 61 lv [jI (if (jw v6) ≤ (jw x2) then x2 else v6)] (jhm b m) r := by
      intro lv g0 g1 g2 g3 g4 g5 g6 g7
      obtain ⟨z8, e9, e⟩ := jbind e
      refine ey_rs (s0 := [jI (if (jw v6) ≤ (jw x2) then x2 else v6)]) (s1 := [jI z8]) (by rw [show (if (jw v6) ≤ (jw x2) then x2 else v6) = z8 from Option.some.inj e9]) ?_
      refine ey_istore (cd_327 rfl) mt_327 rfl ?_
      refine ey_iload (cd_327 rfl) (jup_pi (lv := lv) (j := 7) (v := jI z8) (z := (((v6 + v4) - x4) - 1)) g7) ?_
      refine ey_iload_n (cd_327 rfl) g3 ?_
      have K18 : ∀ lv : jL, lv 0 = some (jR (some 76)) → lv 1 = some (jI x1) → lv 2 = some (jI x2) → lv 3 = some (jI x3) → lv 4 = some (jI x4) → lv 5 = some (jI v4) → lv 6 = some (jI v6) → lv 7 = some (jI (((v6 + v4) - x4) - 1)) → lv 8 = some (jI z8) → ey (mm_xt L xs) 11 327 75 lv [jI (if (jw x3) ≤ (jw (((v6 + v4) - x4) - 1)) then x3 else (((v6 + v4) - x4) - 1))] (jhm b m) r := by
        intro lv g0 g1 g2 g3 g4 g5 g6 g7 g8
        exact jk_327_b75 hb h6 e K lv g0 g1 g2 g3 g4 g5 g6 g7 g8
      by_cases q19 : (jw x3) ≤ (jw (((v6 + v4) - x4) - 1))
      · refine ey_cge (cd_327 rfl) rfl rfl rfl q19 ?_
        refine ey_iload_n (cd_327 rfl) g3 ?_
        exact ey_rs (s0 := [jI x3]) (s1 := [jI (if (jw x3) ≤ (jw (((v6 + v4) - x4) - 1)) then x3 else (((v6 + v4) - x4) - 1))]) (by rw [show ((if (jw x3) ≤ (jw (((v6 + v4) - x4) - 1)) then x3 else (((v6 + v4) - x4) - 1)) : Int) = x3 from (if_pos q19)]) (K18 (jup lv 8 (jI z8)) g0 g1 g2 g3 g4 g5 g6 (jup_pi (lv := lv) (j := 7) (v := jI z8) (z := (((v6 + v4) - x4) - 1)) g7) rfl)
      · refine ey_nge (cd_327 rfl) rfl rfl rfl q19 ?_
        refine ey_iload (cd_327 rfl) (jup_pi (lv := lv) (j := 7) (v := jI z8) (z := (((v6 + v4) - x4) - 1)) g7) ?_
        refine ey_goto (cd_327 rfl) rfl ?_
        exact ey_rs (s0 := [jI (((v6 + v4) - x4) - 1)]) (s1 := [jI (if (jw x3) ≤ (jw (((v6 + v4) - x4) - 1)) then x3 else (((v6 + v4) - x4) - 1))]) (by rw [show ((if (jw x3) ≤ (jw (((v6 + v4) - x4) - 1)) then x3 else (((v6 + v4) - x4) - 1)) : Int) = (((v6 + v4) - x4) - 1) from (if_neg q19)]) (K18 (jup lv 8 (jI z8)) g0 g1 g2 g3 g4 g5 g6 (jup_pi (lv := lv) (j := 7) (v := jI z8) (z := (((v6 + v4) - x4) - 1)) g7) rfl)
    by_cases q21 : (jw v6) ≤ (jw x2)
    · refine ey_cle (cd_327 rfl) rfl rfl rfl q21 ?_
      refine ey_iload_n (cd_327 rfl) f2 ?_
      exact ey_rs (s0 := [jI x2]) (s1 := [jI (if (jw v6) ≤ (jw x2) then x2 else v6)]) (by rw [show ((if (jw v6) ≤ (jw x2) then x2 else v6) : Int) = x2 from (if_pos q21)]) (K20 (jup (jup (jup lv 5 (jI v4)) 6 (jI v6)) 7 (jI (((v6 + v4) - x4) - 1))) f0 f1 f2 f3 (jup_o rfl (jup_o rfl (jup_pi (lv := lv) (j := 4) (v := jI v4) (z := x4) f4))) (jup_o rfl (jup_pi (lv := (jup lv 5 (jI v4))) (j := 5) (v := jI v6) (z := v4) rfl)) (jup_pi (lv := (jup (jup lv 5 (jI v4)) 6 (jI v6))) (j := 6) (v := jI (((v6 + v4) - x4) - 1)) (z := v6) rfl) rfl)
    · refine ey_nle (cd_327 rfl) rfl rfl rfl q21 ?_
      refine ey_iload (cd_327 rfl) (jup_pi (lv := (jup (jup lv 5 (jI v4)) 6 (jI v6))) (j := 6) (v := jI (((v6 + v4) - x4) - 1)) (z := v6) rfl) ?_
      refine ey_goto (cd_327 rfl) rfl ?_
      exact ey_rs (s0 := [jI v6]) (s1 := [jI (if (jw v6) ≤ (jw x2) then x2 else v6)]) (by rw [show ((if (jw v6) ≤ (jw x2) then x2 else v6) : Int) = v6 from (if_neg q21)]) (K20 (jup (jup (jup lv 5 (jI v4)) 6 (jI v6)) 7 (jI (((v6 + v4) - x4) - 1))) f0 f1 f2 f3 (jup_o rfl (jup_o rfl (jup_pi (lv := lv) (j := 4) (v := jI v4) (z := x4) f4))) (jup_o rfl (jup_pi (lv := (jup lv 5 (jI v4))) (j := 5) (v := jI v6) (z := v4) rfl)) (jup_pi (lv := (jup (jup lv 5 (jI v4)) 6 (jI v6))) (j := 6) (v := jI (((v6 + v4) - x4) - 1)) (z := v6) rfl) rfl)
theorem jk_327_l3 {L : Nat} {xs : Nat → Int32} {b : jH} (hb : 152 ≤ b.1) (h6 : b.1 ≤ 1000000) {x1 : Int} {x2 : Int} {x3 : Int} {x4 : Int} {m : jM} {x : (jM ⊕ jM)} {r : mm_R} (e : jd_327_l3 x1 x2 x3 x4 m = some x) (K : (jsm (fun y => (∀ lv : jL, ey (mm_xt L xs) 11 327 126 lv [] (jhm b y) r)) (fun z => (∀ lv : jL, ey (mm_xt L xs) 11 327 135 lv [] (jhm b z) r)) x)) : ∀ lv : jL, lv 0 = some (jR (some 76)) → lv 1 = some (jI x1) → lv 2 = some (jI x2) → lv 3 = some (jI x3) → lv 4 = some (jI x4) → ey (mm_xt L xs) 11 327 3 lv [] (jhm b m) r := by
  unfold jd_327_l3 at e
  exact jlp_ok2 (P := fun s => ∀ lv : jL, lv 0 = some (jR (some 76)) → lv 1 = some (jI x1) → lv 2 = some (jI x2) → lv 3 = some (jI x3) → lv 4 = some (jI s.1) → ey (mm_xt L xs) 11 327 3 lv [] (jhm b s.2) r) (Q := fun x => (jsm (fun y => (∀ lv : jL, ey (mm_xt L xs) 11 327 126 lv [] (jhm b y) r)) (fun z => (∀ lv : jL, ey (mm_xt L xs) 11 327 135 lv [] (jhm b z) r)) x)) (fun s q hq hk => jk_327_s3 hb h6 hq hk) jfu _ x e K
set_option maxRecDepth 100000 in
theorem ok_327 {L : Nat} {xs : Nat → Int32} {b : jH} (hb : 152 ≤ b.1) (h6 : b.1 ≤ 1000000) {p0 : Int} {p1 : Int} {p2 : Int} {m : jM} {o : (Int × jM)} (e : jd_327 p0 p1 p2 m = some o) : mm_Runs (mm_xt L xs) 12 327 ([jR (some 76), jI p0, jI p1, jI p2].map jcv) (jaH (jhm b m)) (.inl (some (jcv (jI o.1)), jaH (jhm b o.2))) := by
  refine ey_run0 _ mt_327 (jsl_s rfl) ?_
  unfold jd_327 at e
  refine ey_iconst (cd_327 rfl) ?_
  refine ey_istore (cd_327 rfl) mt_327 rfl ?_
  obtain ⟨x22, e23, e⟩ := jbind e
  refine jk_327_l3 hb h6 e23 ?_ (jup (jlf (jla 0 [jR (some 76), jI p0, jI p1, jI p2])) 4 (jI 0)) rfl rfl rfl (jup_pi (lv := (jlf (jla 0 [jR (some 76), jI p0, jI p1, jI p2]))) (j := 3) (v := jI 0) (z := p2) rfl) rfl
  cases x22 with
  | inl y24 =>
    replace e : (some (0, y24) : Option (Int × jM)) = some o := e
    intro lv 
    refine ey_iconst (cd_327 rfl) ?_
    cases e
    exact ey_retz (cd_327 rfl) mt_327 rfl (Or.inl rfl)
  | inr y25 =>
    replace e : (some (1, y25) : Option (Int × jM)) = some o := e
    intro lv 
    refine ey_iconst (cd_327 rfl) ?_
    cases e
    exact ey_retz (cd_327 rfl) mt_327 rfl (Or.inr rfl)
