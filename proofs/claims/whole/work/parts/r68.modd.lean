theorem cd_275 {pc : Nat} {i : Instr × Nat} (h : mm_lk mm_c275 pc = some i) : mm_cd 275 pc = some i := h
theorem mt_275 : mm_MT 275 = (12, 5, none, 1, 0, []) := rfl
set_option maxRecDepth 100000 in
theorem jk_275_s2 {L : Nat} {xs : Nat → Int32} {b : jH} (hb : 152 ≤ b.1) (h6 : b.1 ≤ 1000000) {x1 : Int} {x2 : Int} {m : jM} {o : ((Int × jM) ⊕ (Int × jM))} {r : mm_R} (e : jd_275_s2 x1 x2 m = some o) (K : jsm (fun s => (∀ lv : jL, lv 0 = some (jR (some 76)) → lv 1 = some (jI x1) → lv 2 = some (jI s.1) → ey (mm_xt L xs) 4 275 2 lv [] (jhm b s.2) r)) (fun x => (∀ lv : jL, lv 0 = some (jR (some 76)) → lv 1 = some (jI x1) → lv 2 = some (jI x.1) → ey (mm_xt L xs) 4 275 33 lv [] (jhm b x.2) r)) o) : ∀ lv : jL, lv 0 = some (jR (some 76)) → lv 1 = some (jI x1) → lv 2 = some (jI x2) → ey (mm_xt L xs) 4 275 2 lv [] (jhm b m) r := by
  intro lv f0 f1 f2
  unfold jd_275_s2 at e
  refine ey_iload_n (cd_275 rfl) f2 ?_
  refine ey_iconst (cd_275 rfl) ?_
  by_cases q1 : 3 ≤ (jw x2)
  · rw [if_pos q1] at e
    refine ey_cge (cd_275 rfl) rfl rfl (show jw 3 = 3 from by decide) q1 ?_
    cases e
    exact K lv f0 f1 f2
  · rw [if_neg q1] at e
    refine ey_nge (cd_275 rfl) rfl rfl (show jw 3 = 3 from by decide) q1 ?_
    refine ey_aload_n (cd_275 rfl) f0 ?_
    refine ey_getf_i (z := (m 76 52)) (cd_275 rfl) mt_275 rfl rfl rfl (jhm_gi hb 52) ?_
    by_cases q2 : (jw (m 76 52)) = 0
    · rw [if_pos q2] at e
      refine ey_yne (cd_275 rfl) rfl rfl (fun w => w q2) ?_
      refine ey_aload_n (cd_275 rfl) f0 ?_
      refine ey_iload_n (cd_275 rfl) f1 ?_
      refine ey_iload_n (cd_275 rfl) f2 ?_
      obtain ⟨m3, e4, e⟩ := jbind e
      refine ey_cv (s0 := [jI x2, jI x1, jR (some 76)]) (s1 := []) (st' := []) (cd_275 rfl) mt_275 mt_274 rfl rfl rfl (jhm_is hb) rfl (jsml_s rfl) rfl (ok_274 hb h6 e4) ?_
      refine ey_aload_n (cd_275 rfl) f0 ?_
      refine ey_getf_i (z := (m3 76 52)) (cd_275 rfl) mt_275 rfl rfl rfl (jhm_gi hb 52) ?_
      have K5 : ∀ lv : jL, lv 0 = some (jR (some 76)) → lv 1 = some (jI x1) → lv 2 = some (jI (if (jw (m3 76 52)) = 0 then (x2 + 1) else x2)) → ey (mm_xt L xs) 4 275 2 lv [] (jhm b m3) r := by
        intro lv g0 g1 g2
        cases e
        exact K lv g0 g1 g2
      by_cases q6 : (jw (m3 76 52)) = 0
      · refine ey_yne (cd_275 rfl) rfl rfl (fun w => w q6) ?_
        refine ey_iinc (cd_275 rfl) mt_275 rfl f2 ?_
        refine ey_goto (cd_275 rfl) rfl ?_
        exact K5 (jup lv 2 (jI (x2 + 1))) f0 (jup_pi (lv := lv) (j := 1) (v := jI (x2 + 1)) (z := x1) f1) (Eq.trans (show (jup lv 2 (jI (x2 + 1))) 2 = some (jI (x2 + 1)) from rfl) (congrArg (fun z => some (jI z)) (Eq.symm (if_pos q6))))
      · refine ey_zne (cd_275 rfl) rfl rfl q6 ?_
        exact K5 lv f0 f1 (Eq.trans (show lv 2 = some (jI x2) from f2) (congrArg (fun z => some (jI z)) (Eq.symm (if_neg q6))))
    · rw [if_neg q2] at e
      refine ey_zne (cd_275 rfl) rfl rfl q2 ?_
      cases e
      exact K lv f0 f1 f2
theorem jk_275_l2 {L : Nat} {xs : Nat → Int32} {b : jH} (hb : 152 ≤ b.1) (h6 : b.1 ≤ 1000000) {x1 : Int} {x2 : Int} {m : jM} {x : (Int × jM)} {r : mm_R} (e : jd_275_l2 x1 x2 m = some x) (K : (∀ lv : jL, lv 0 = some (jR (some 76)) → lv 1 = some (jI x1) → lv 2 = some (jI x.1) → ey (mm_xt L xs) 4 275 33 lv [] (jhm b x.2) r)) : ∀ lv : jL, lv 0 = some (jR (some 76)) → lv 1 = some (jI x1) → lv 2 = some (jI x2) → ey (mm_xt L xs) 4 275 2 lv [] (jhm b m) r := by
  unfold jd_275_l2 at e
  exact jlp_ok2 (P := fun s => ∀ lv : jL, lv 0 = some (jR (some 76)) → lv 1 = some (jI x1) → lv 2 = some (jI s.1) → ey (mm_xt L xs) 4 275 2 lv [] (jhm b s.2) r) (Q := fun x => (∀ lv : jL, lv 0 = some (jR (some 76)) → lv 1 = some (jI x1) → lv 2 = some (jI x.1) → ey (mm_xt L xs) 4 275 33 lv [] (jhm b x.2) r)) (fun s q hq hk => jk_275_s2 hb h6 hq hk) jfu _ x e K
set_option maxRecDepth 100000 in
theorem jk_275_b139 {L : Nat} {xs : Nat → Int32} {b : jH} (hb : 152 ≤ b.1) (h6 : b.1 ≤ 1000000)  {m : jM} {o : jM} (e : jd_275_b139  m = some o) : ∀ lv : jL, ey (mm_xt L xs) 4 275 139 lv [] (jhm b m) (.inl (none, jaH (jhm b o))) := by
  intro lv 
  unfold jd_275_b139 at e
  cases e
  exact ey_retv (cd_275 rfl) mt_275 rfl
set_option maxRecDepth 100000 in
theorem jk_275_s57 {L : Nat} {xs : Nat → Int32} {b : jH} (hb : 152 ≤ b.1) (h6 : b.1 ≤ 1000000) {x1 : Int} {x3 : Int} {x4 : Int} {m : jM} {o : ((Int × jM) ⊕ jM)} {r : mm_R} (e : jd_275_s57 x1 x3 x4 m = some o) (K : jsm (fun s => (∀ lv : jL, lv 0 = some (jR (some 76)) → lv 1 = some (jI x1) → lv 3 = some (jI x3) → lv 4 = some (jI s.1) → ey (mm_xt L xs) 4 275 57 lv [] (jhm b s.2) r)) (fun x => (∀ lv : jL, lv 0 = some (jR (some 76)) → lv 1 = some (jI x1) → lv 3 = some (jI x3) → ey (mm_xt L xs) 4 275 114 lv [] (jhm b x) r)) o) : ∀ lv : jL, lv 0 = some (jR (some 76)) → lv 1 = some (jI x1) → lv 3 = some (jI x3) → lv 4 = some (jI x4) → ey (mm_xt L xs) 4 275 57 lv [] (jhm b m) r := by
  intro lv f0 f1 f3 f4
  unfold jd_275_s57 at e
  refine ey_iload (cd_275 rfl) f4 ?_
  refine ey_aload_n (cd_275 rfl) f0 ?_
  refine ey_getf_i (z := (m 76 33)) (cd_275 rfl) mt_275 rfl rfl rfl (jhm_gi hb 33) ?_
  refine ey_iload_n (cd_275 rfl) f3 ?_
  refine ey_cs (s0 := [jI x3, jI (m 76 33), jI x4]) (s1 := [jI x4]) (st' := [jI (jd_206 (m 76 33) x3), jI x4]) (cd_275 rfl) mt_275 mt_206 rfl (by decide) rfl rfl (jsml_s rfl) rfl (mm_Runs.up (d := 1) (by decide) (ok_206 )) ?_
  refine ey_aload_n (cd_275 rfl) f0 ?_
  refine ey_getf_i (z := (m 76 34)) (cd_275 rfl) mt_275 rfl rfl rfl (jhm_gi hb 34) ?_
  refine ey_iload_n (cd_275 rfl) f3 ?_
  refine ey_cs (s0 := [jI x3, jI (m 76 34), jI (jd_206 (m 76 33) x3), jI x4]) (s1 := [jI (jd_206 (m 76 33) x3), jI x4]) (st' := [jI (jd_206 (m 76 34) x3), jI (jd_206 (m 76 33) x3), jI x4]) (cd_275 rfl) mt_275 mt_206 rfl (by decide) rfl rfl (jsml_s rfl) rfl (mm_Runs.up (d := 1) (by decide) (ok_206 )) ?_
  refine ey_imul (cd_275 rfl) ?_
  by_cases q18 : (jw ((jd_206 (m 76 33) x3) * (jd_206 (m 76 34) x3))) ≤ (jw x4)
  · rw [if_pos q18] at e
    refine ey_cge (cd_275 rfl) rfl rfl rfl q18 ?_
    cases e
    exact K lv f0 f1 f3
  · rw [if_neg q18] at e
    refine ey_nge (cd_275 rfl) rfl rfl rfl q18 ?_
    refine ey_aload_n (cd_275 rfl) f0 ?_
    refine ey_iload_n (cd_275 rfl) f1 ?_
    refine ey_iload_n (cd_275 rfl) f3 ?_
    refine ey_iload (cd_275 rfl) f4 ?_
    refine ey_aload_n (cd_275 rfl) f0 ?_
    refine ey_getf_i (z := (m 76 33)) (cd_275 rfl) mt_275 rfl rfl rfl (jhm_gi hb 33) ?_
    refine ey_iload_n (cd_275 rfl) f3 ?_
    refine ey_cs (s0 := [jI x3, jI (m 76 33), jI x4, jI x3, jI x1, jR (some 76)]) (s1 := [jI x4, jI x3, jI x1, jR (some 76)]) (st' := [jI (jd_206 (m 76 33) x3), jI x4, jI x3, jI x1, jR (some 76)]) (cd_275 rfl) mt_275 mt_206 rfl (by decide) rfl rfl (jsml_s rfl) rfl (mm_Runs.up (d := 1) (by decide) (ok_206 )) ?_
    obtain ⟨u19, e20, e⟩ := jbind e
    refine ey_irem (cd_275 rfl) (jnz_s e20) ?_
    refine ey_iload (cd_275 rfl) f4 ?_
    refine ey_aload_n (cd_275 rfl) f0 ?_
    refine ey_getf_i (z := (m 76 33)) (cd_275 rfl) mt_275 rfl rfl rfl (jhm_gi hb 33) ?_
    refine ey_iload_n (cd_275 rfl) f3 ?_
    refine ey_cs (s0 := [jI x3, jI (m 76 33), jI x4, jI (jrem x4 (jd_206 (m 76 33) x3)), jI x3, jI x1, jR (some 76)]) (s1 := [jI x4, jI (jrem x4 (jd_206 (m 76 33) x3)), jI x3, jI x1, jR (some 76)]) (st' := [jI (jd_206 (m 76 33) x3), jI x4, jI (jrem x4 (jd_206 (m 76 33) x3)), jI x3, jI x1, jR (some 76)]) (cd_275 rfl) mt_275 mt_206 rfl (by decide) rfl rfl (jsml_s rfl) rfl (mm_Runs.up (d := 1) (by decide) (ok_206 )) ?_
    obtain ⟨u21, e22, e⟩ := jbind e
    refine ey_idiv (cd_275 rfl) (jnz_s e22) ?_
    refine ey_iconst (cd_275 rfl) ?_
    obtain ⟨m23, e24, e⟩ := jbind e
    refine ey_cv (s0 := [jI (-1), jI (jdiv x4 (jd_206 (m 76 33) x3)), jI (jrem x4 (jd_206 (m 76 33) x3)), jI x3, jI x1, jR (some 76)]) (s1 := []) (st' := []) (cd_275 rfl) mt_275 mt_241 rfl rfl rfl (jhm_is hb) rfl (jsml_s rfl) rfl (mm_Runs.up (d := 3) (by decide) (ok_241 hb h6 e24)) ?_
    refine ey_iinc (cd_275 rfl) mt_275 rfl f4 ?_
    refine ey_goto (cd_275 rfl) rfl ?_
    cases e
    exact K (jup lv 4 (jI (x4 + 1))) f0 f1 (jup_pi (lv := lv) (j := 3) (v := jI (x4 + 1)) (z := x3) f3) rfl
theorem jk_275_l57 {L : Nat} {xs : Nat → Int32} {b : jH} (hb : 152 ≤ b.1) (h6 : b.1 ≤ 1000000) {x1 : Int} {x3 : Int} {x4 : Int} {m : jM} {x : jM} {r : mm_R} (e : jd_275_l57 x1 x3 x4 m = some x) (K : (∀ lv : jL, lv 0 = some (jR (some 76)) → lv 1 = some (jI x1) → lv 3 = some (jI x3) → ey (mm_xt L xs) 4 275 114 lv [] (jhm b x) r)) : ∀ lv : jL, lv 0 = some (jR (some 76)) → lv 1 = some (jI x1) → lv 3 = some (jI x3) → lv 4 = some (jI x4) → ey (mm_xt L xs) 4 275 57 lv [] (jhm b m) r := by
  unfold jd_275_l57 at e
  exact jlp_ok2 (P := fun s => ∀ lv : jL, lv 0 = some (jR (some 76)) → lv 1 = some (jI x1) → lv 3 = some (jI x3) → lv 4 = some (jI s.1) → ey (mm_xt L xs) 4 275 57 lv [] (jhm b s.2) r) (Q := fun x => (∀ lv : jL, lv 0 = some (jR (some 76)) → lv 1 = some (jI x1) → lv 3 = some (jI x3) → ey (mm_xt L xs) 4 275 114 lv [] (jhm b x) r)) (fun s q hq hk => jk_275_s57 hb h6 hq hk) jfu _ x e K
set_option maxRecDepth 100000 in
theorem jk_275_s49 {L : Nat} {xs : Nat → Int32} {b : jH} (hb : 152 ≤ b.1) (h6 : b.1 ≤ 1000000) {x1 : Int} {x3 : Int} {m : jM} {o : ((Int × jM) ⊕ jM)} {r : mm_R} (e : jd_275_s49 x1 x3 m = some o) (K : jsm (fun s => (∀ lv : jL, lv 0 = some (jR (some 76)) → lv 1 = some (jI x1) → lv 3 = some (jI s.1) → ey (mm_xt L xs) 4 275 49 lv [] (jhm b s.2) r)) (fun x => (∀ lv : jL, ey (mm_xt L xs) 4 275 120 lv [] (jhm b x) r)) o) : ∀ lv : jL, lv 0 = some (jR (some 76)) → lv 1 = some (jI x1) → lv 3 = some (jI x3) → ey (mm_xt L xs) 4 275 49 lv [] (jhm b m) r := by
  intro lv f0 f1 f3
  unfold jd_275_s49 at e
  refine ey_iload_n (cd_275 rfl) f3 ?_
  refine ey_iconst (cd_275 rfl) ?_
  by_cases q17 : 3 ≤ (jw x3)
  · rw [if_pos q17] at e
    refine ey_cge (cd_275 rfl) rfl rfl (show jw 3 = 3 from by decide) q17 ?_
    cases e
    exact K lv 
  · rw [if_neg q17] at e
    refine ey_nge (cd_275 rfl) rfl rfl (show jw 3 = 3 from by decide) q17 ?_
    refine ey_iconst (cd_275 rfl) ?_
    refine ey_istore (cd_275 rfl) mt_275 rfl ?_
    obtain ⟨x25, e26, e⟩ := jbind e
    refine jk_275_l57 hb h6 e26 ?_ (jup lv 4 (jI 0)) f0 f1 (jup_pi (lv := lv) (j := 3) (v := jI 0) (z := x3) f3) rfl
    intro lv g0 g1 g3
    refine ey_iinc (cd_275 rfl) mt_275 rfl g3 ?_
    refine ey_goto (cd_275 rfl) rfl ?_
    cases e
    exact K (jup lv 3 (jI (x3 + 1))) g0 g1 rfl
theorem jk_275_l49 {L : Nat} {xs : Nat → Int32} {b : jH} (hb : 152 ≤ b.1) (h6 : b.1 ≤ 1000000) {x1 : Int} {x3 : Int} {m : jM} {x : jM} {r : mm_R} (e : jd_275_l49 x1 x3 m = some x) (K : (∀ lv : jL, ey (mm_xt L xs) 4 275 120 lv [] (jhm b x) r)) : ∀ lv : jL, lv 0 = some (jR (some 76)) → lv 1 = some (jI x1) → lv 3 = some (jI x3) → ey (mm_xt L xs) 4 275 49 lv [] (jhm b m) r := by
  unfold jd_275_l49 at e
  exact jlp_ok2 (P := fun s => ∀ lv : jL, lv 0 = some (jR (some 76)) → lv 1 = some (jI x1) → lv 3 = some (jI s.1) → ey (mm_xt L xs) 4 275 49 lv [] (jhm b s.2) r) (Q := fun x => (∀ lv : jL, ey (mm_xt L xs) 4 275 120 lv [] (jhm b x) r)) (fun s q hq hk => jk_275_s49 hb h6 hq hk) jfu _ x e K
set_option maxRecDepth 100000 in
theorem ok_275 {L : Nat} {xs : Nat → Int32} {b : jH} (hb : 152 ≤ b.1) (h6 : b.1 ≤ 1000000) {p0 : Int} {m : jM} {o : jM} (e : jd_275 p0 m = some o) : mm_Runs (mm_xt L xs) 5 275 ([jR (some 76), jI p0].map jcv) (jaH (jhm b m)) (.inl (none, jaH (jhm b o))) := by
  refine ey_run0 _ mt_275 (jsl_s rfl) ?_
  unfold jd_275 at e
  refine ey_iconst (cd_275 rfl) ?_
  refine ey_istore_n (cd_275 rfl) mt_275 rfl ?_
  obtain ⟨x7, e8, e⟩ := jbind e
  refine jk_275_l2 hb h6 e8 ?_ (jup (jlf (jla 0 [jR (some 76), jI p0])) 2 (jI 0)) rfl (jup_pi (lv := (jlf (jla 0 [jR (some 76), jI p0]))) (j := 1) (v := jI 0) (z := p0) rfl) rfl
  intro lv g0 g1 g2
  refine ey_aload_n (cd_275 rfl) g0 ?_
  refine ey_getf_i (z := (x7.2 76 52)) (cd_275 rfl) mt_275 rfl rfl rfl (jhm_gi hb 52) ?_
  by_cases q9 : (jw (x7.2 76 52)) ≤ 0
  · rw [if_pos q9] at e
    refine ey_zle (cd_275 rfl) rfl rfl q9 ?_
    refine ey_aload_n (cd_275 rfl) g0 ?_
    obtain ⟨m10, e11, e⟩ := jbind e
    refine ey_cv (s0 := [jR (some 76)]) (s1 := []) (st' := []) (cd_275 rfl) mt_275 mt_269 rfl rfl rfl (jhm_is hb) rfl (jsml_s rfl) rfl (mm_Runs.up (d := 2) (by decide) (ok_269 hb h6 e11)) ?_
    refine ey_aload_n (cd_275 rfl) g0 ?_
    refine ey_getf_i (z := (m10 76 52)) (cd_275 rfl) mt_275 rfl rfl rfl (jhm_gi hb 52) ?_
    by_cases q12 : (jw (m10 76 52)) ≤ 0
    · rw [if_pos q12] at e
      refine ey_zle (cd_275 rfl) rfl rfl q12 ?_
      exact jk_275_b139 hb h6 e lv 
    · rw [if_neg q12] at e
      refine ey_yle (cd_275 rfl) rfl rfl q12 ?_
      refine ey_aload_n (cd_275 rfl) g0 ?_
      refine ey_getf_r (cd_275 rfl) mt_275 rfl rfl rfl (jhm_gr (q := 108) hb rfl) ?_
      refine ey_iload_n (cd_275 rfl) g1 ?_
      refine ey_iconst (cd_275 rfl) ?_
      obtain ⟨m13, e14, e⟩ := jbind e
      refine ey_iast (cd_275 rfl) (jhm_ta hb (by decide) rfl e14) ?_
      exact jk_275_b139 hb h6 e lv 
  · rw [if_neg q9] at e
    refine ey_yle (cd_275 rfl) rfl rfl q9 ?_
    refine ey_aload_n (cd_275 rfl) g0 ?_
    refine ey_getf_r (cd_275 rfl) mt_275 rfl rfl rfl (jhm_gr (q := 108) hb rfl) ?_
    refine ey_iload_n (cd_275 rfl) g1 ?_
    refine ey_iload_n (cd_275 rfl) g2 ?_
    obtain ⟨m15, e16, e⟩ := jbind e
    refine ey_iast (cd_275 rfl) (jhm_ta hb (by decide) rfl e16) ?_
    refine ey_iload_n (cd_275 rfl) g2 ?_
    refine ey_istore_n (cd_275 rfl) mt_275 rfl ?_
    obtain ⟨x27, e28, e⟩ := jbind e
    refine jk_275_l49 hb h6 e28 ?_ (jup lv 3 (jI x7.1)) g0 g1 rfl
    intro lv 
    cases e
    exact ey_retv (cd_275 rfl) mt_275 rfl
theorem cd_276 {pc : Nat} {i : Instr × Nat} (h : mm_lk mm_c276 pc = some i) : mm_cd 276 pc = some i := h
theorem mt_276 : mm_MT 276 = (12, 12, none, 2, 0, []) := rfl
set_option maxRecDepth 100000 in
theorem jk_276_b274 {L : Nat} {xs : Nat → Int32} {b : jH} (hb : 152 ≤ b.1) (h6 : b.1 ≤ 1000000) {x1 : Int} {x2 : Int} {x3 : Int} {x4 : Int} {x5 : Int} {x6 : Int} {x7 : Int} {x8 : Int} {x9 : Int} {x10 : Int} {y0 : Int} {y1 : Int} {m : jM} {o : ((Int × Int × jM) ⊕ (jM ⊕ (Int × jM)))} {r : mm_R} (e : jd_276_b274 x1 x2 x3 x4 x5 x6 x7 x8 x9 x10 y0 y1 m = some o) (K : jsm (fun s => (∀ lv : jL, lv 0 = some (jR (some 76)) → lv 1 = some (jI x1) → lv 2 = some (jI x2) → lv 3 = some (jI x3) → lv 4 = some (jI x4) → lv 5 = some (jI x5) → lv 6 = some (jI s.1) → lv 7 = some (jI x7) → lv 8 = some (jI x8) → lv 9 = some (jI x9) → lv 10 = some (jI s.2.1) → ey (mm_xt L xs) 2 276 169 lv [] (jhm b s.2.2) r)) (fun x => (jsm (fun y => (∀ lv : jL, ey (mm_xt L xs) 2 276 209 lv [] (jhm b y) r)) (fun z => (∀ lv : jL, lv 0 = some (jR (some 76)) → lv 1 = some (jI x1) → lv 2 = some (jI x2) → lv 3 = some (jI x3) → lv 4 = some (jI x4) → lv 5 = some (jI x5) → lv 6 = some (jI z.1) → ey (mm_xt L xs) 2 276 294 lv [] (jhm b z.2) r)) x)) o) : ∀ lv : jL, lv 0 = some (jR (some 76)) → lv 1 = some (jI x1) → lv 2 = some (jI x2) → lv 3 = some (jI x3) → lv 4 = some (jI x4) → lv 5 = some (jI x5) → lv 6 = some (jI x6) → lv 7 = some (jI x7) → lv 8 = some (jI x8) → lv 9 = some (jI x9) → lv 10 = some (jI x10) → ey (mm_xt L xs) 2 276 274 lv [jI y0, jI y1, jR (some 109)] (jhm b m) r := by
  intro lv f0 f1 f2 f3 f4 f5 f6 f7 f8 f9 f10
  unfold jd_276_b274 at e
  obtain ⟨m33, e34, e⟩ := jbind e
  refine ey_iast (cd_276 rfl) (jhm_ta hb (by decide) rfl e34) ?_
  refine ey_iinc (cd_276 rfl) mt_276 rfl f6 ?_
  refine ey_aload_n (cd_276 rfl) f0 ?_
  refine ey_dup (cd_276 rfl) rfl ?_
  refine ey_getf_i (z := (m33 76 69)) (cd_276 rfl) mt_276 rfl rfl rfl (jhm_gi hb 69) ?_
  refine ey_iconst (cd_276 rfl) ?_
  refine ey_iadd (cd_276 rfl) ?_
  obtain ⟨m35, e36, e⟩ := jbind e
  refine ey_putf_i (cd_276 rfl) mt_276 rfl rfl rfl (jhm_pi' (k := 69) hb e36) ?_
  refine ey_iinc (cd_276 rfl) mt_276 rfl f10 ?_
  refine ey_goto (cd_276 rfl) rfl ?_
  cases e
  exact K (jup (jup lv 6 (jI (x6 + 1))) 10 (jI (x10 + 1))) f0 f1 f2 f3 f4 (jup_o rfl (jup_pi (lv := lv) (j := 5) (v := jI (x6 + 1)) (z := x5) f5)) rfl f7 f8 (jup_pi (lv := (jup lv 6 (jI (x6 + 1)))) (j := 9) (v := jI (x10 + 1)) (z := x9) f9) rfl
set_option maxRecDepth 100000 in
theorem jk_276_b200 {L : Nat} {xs : Nat → Int32} {b : jH} (hb : 152 ≤ b.1) (h6 : b.1 ≤ 1000000) {x1 : Int} {x2 : Int} {x3 : Int} {x4 : Int} {x5 : Int} {x6 : Int} {x7 : Int} {x8 : Int} {x9 : Int} {x10 : Int} {y0 : Int} {m : jM} {o : ((Int × Int × jM) ⊕ (jM ⊕ (Int × jM)))} {r : mm_R} (e : jd_276_b200 x1 x2 x3 x4 x5 x6 x7 x8 x9 x10 y0 m = some o) (K : jsm (fun s => (∀ lv : jL, lv 0 = some (jR (some 76)) → lv 1 = some (jI x1) → lv 2 = some (jI x2) → lv 3 = some (jI x3) → lv 4 = some (jI x4) → lv 5 = some (jI x5) → lv 6 = some (jI s.1) → lv 7 = some (jI x7) → lv 8 = some (jI x8) → lv 9 = some (jI x9) → lv 10 = some (jI s.2.1) → ey (mm_xt L xs) 2 276 169 lv [] (jhm b s.2.2) r)) (fun x => (jsm (fun y => (∀ lv : jL, ey (mm_xt L xs) 2 276 209 lv [] (jhm b y) r)) (fun z => (∀ lv : jL, lv 0 = some (jR (some 76)) → lv 1 = some (jI x1) → lv 2 = some (jI x2) → lv 3 = some (jI x3) → lv 4 = some (jI x4) → lv 5 = some (jI x5) → lv 6 = some (jI z.1) → ey (mm_xt L xs) 2 276 294 lv [] (jhm b z.2) r)) x)) o) : ∀ lv : jL, lv 0 = some (jR (some 76)) → lv 1 = some (jI x1) → lv 2 = some (jI x2) → lv 3 = some (jI x3) → lv 4 = some (jI x4) → lv 5 = some (jI x5) → lv 6 = some (jI x6) → lv 7 = some (jI x7) → lv 8 = some (jI x8) → lv 9 = some (jI x9) → lv 10 = some (jI x10) → ey (mm_xt L xs) 2 276 200 lv [jI y0] (jhm b m) r := by
  intro lv f0 f1 f2 f3 f4 f5 f6 f7 f8 f9 f10
  unfold jd_276_b200 at e
  refine ey_istore (cd_276 rfl) mt_276 rfl ?_
  refine ey_aload_n (cd_276 rfl) f0 ?_
  refine ey_getf_i (z := (m 76 52)) (cd_276 rfl) mt_276 rfl rfl rfl (jhm_gi hb 52) ?_
  by_cases q27 : (jw (m 76 52)) ≤ 0
  · rw [if_pos q27] at e
    refine ey_zle (cd_276 rfl) rfl rfl q27 ?_
    refine ey_aload_n (cd_276 rfl) f0 ?_
    refine ey_getf_r (cd_276 rfl) mt_276 rfl rfl rfl (jhm_gr (q := 109) hb rfl) ?_
    refine ey_iload (cd_276 rfl) f5 ?_
    refine ey_iload (cd_276 rfl) f6 ?_
    refine ey_iadd (cd_276 rfl) ?_
    refine ey_iload (cd_276 rfl) f7 ?_
    refine ey_iconst (cd_276 rfl) ?_
    by_cases q28 : (jw x7) = 1
    · rw [if_pos q28] at e
      refine ey_nne (cd_276 rfl) rfl rfl (show jw 1 = 1 from by decide) (fun w => w q28) ?_
      refine ey_aload_n (cd_276 rfl) f0 ?_
      refine ey_getf_r (cd_276 rfl) mt_276 rfl rfl rfl (jhm_gr (q := 109) hb rfl) ?_
      refine ey_sipush (cd_276 rfl) (by decide) ?_
      refine ey_aload_n (cd_276 rfl) f0 ?_
      refine ey_iload_n (cd_276 rfl) f1 ?_
      refine ey_iconst (cd_276 rfl) ?_
      obtain ⟨v29, e30, e⟩ := jbind e
      refine ey_cv (s0 := [jI 1, jI x1, jR (some 76), jI 864, jR (some 109), jI (x5 + x6), jR (some 109)]) (s1 := [jI 864, jR (some 109), jI (x5 + x6), jR (some 109)]) (st' := [jI v29, jI 864, jR (some 109), jI (x5 + x6), jR (some 109)]) (cd_276 rfl) mt_276 mt_239 rfl rfl rfl (jhm_is hb) rfl (jsml_s rfl) rfl (mm_Runs.up (d := 1) (by decide) (ok_239 hb h6 e30)) ?_
      refine ey_imul (cd_276 rfl) ?_
      refine ey_iload_n (cd_276 rfl) f2 ?_
      refine ey_cs (s0 := [jI x2, jI (864 * v29), jR (some 109), jI (x5 + x6), jR (some 109)]) (s1 := [jI (864 * v29), jR (some 109), jI (x5 + x6), jR (some 109)]) (st' := [jI (jd_207 x2), jI (864 * v29), jR (some 109), jI (x5 + x6), jR (some 109)]) (cd_276 rfl) mt_276 mt_207 rfl (by decide) rfl rfl (jsml_s rfl) rfl (mm_Runs.up (d := 1) (by decide) (ok_207 )) ?_
      refine ey_iadd (cd_276 rfl) ?_
      refine ey_iload (cd_276 rfl) f6 ?_
      refine ey_iadd (cd_276 rfl) ?_
      obtain ⟨v31, e32, e⟩ := jbind e
      refine ey_iald (cd_276 rfl) (jhm_ai hb h6 (by decide) rfl e32) ?_
      refine ey_goto (cd_276 rfl) rfl ?_
      exact jk_276_b274 hb h6 e K (jup lv 11 (jI y0)) f0 f1 f2 f3 f4 f5 f6 f7 f8 f9 (jup_pi (lv := lv) (j := 10) (v := jI y0) (z := x10) f10)
    · rw [if_neg q28] at e
      refine ey_cne (cd_276 rfl) rfl rfl (show jw 1 = 1 from by decide) q28 ?_
      refine ey_iload (cd_276 rfl) f7 ?_
      refine ey_iconst (cd_276 rfl) ?_
      by_cases q37 : (jw x7) = 2
      · rw [if_pos q37] at e
        refine ey_nne (cd_276 rfl) rfl rfl (show jw 2 = 2 from by decide) (fun w => w q37) ?_
        refine ey_aload_n (cd_276 rfl) f0 ?_
        refine ey_getf_r (cd_276 rfl) mt_276 rfl rfl rfl (jhm_gr (q := 109) hb rfl) ?_
        refine ey_iload (cd_276 rfl) f5 ?_
        refine ey_iload (cd_276 rfl) f6 ?_
        refine ey_iadd (cd_276 rfl) ?_
        refine ey_iload_n (cd_276 rfl) f3 ?_
        refine ey_isub (cd_276 rfl) ?_
        obtain ⟨v38, e39, e⟩ := jbind e
        refine ey_iald (cd_276 rfl) (jhm_ai hb h6 (by decide) rfl e39) ?_
        refine ey_goto (cd_276 rfl) rfl ?_
        exact jk_276_b274 hb h6 e K (jup lv 11 (jI y0)) f0 f1 f2 f3 f4 f5 f6 f7 f8 f9 (jup_pi (lv := lv) (j := 10) (v := jI y0) (z := x10) f10)
      · rw [if_neg q37] at e
        refine ey_cne (cd_276 rfl) rfl rfl (show jw 2 = 2 from by decide) q37 ?_
        refine ey_iload (cd_276 rfl) rfl ?_
        exact jk_276_b274 hb h6 e K (jup lv 11 (jI y0)) f0 f1 f2 f3 f4 f5 f6 f7 f8 f9 (jup_pi (lv := lv) (j := 10) (v := jI y0) (z := x10) f10)
  · rw [if_neg q27] at e
    refine ey_yle (cd_276 rfl) rfl rfl q27 ?_
    cases e
    exact K (jup lv 11 (jI y0)) 
set_option maxRecDepth 100000 in
theorem jk_276_s169 {L : Nat} {xs : Nat → Int32} {b : jH} (hb : 152 ≤ b.1) (h6 : b.1 ≤ 1000000) {x1 : Int} {x2 : Int} {x3 : Int} {x4 : Int} {x5 : Int} {x7 : Int} {x8 : Int} {x9 : Int} {x6 : Int} {x10 : Int} {m : jM} {o : ((Int × Int × jM) ⊕ (jM ⊕ (Int × jM)))} {r : mm_R} (e : jd_276_s169 x1 x2 x3 x4 x5 x7 x8 x9 x6 x10 m = some o) (K : jsm (fun s => (∀ lv : jL, lv 0 = some (jR (some 76)) → lv 1 = some (jI x1) → lv 2 = some (jI x2) → lv 3 = some (jI x3) → lv 4 = some (jI x4) → lv 5 = some (jI x5) → lv 6 = some (jI s.1) → lv 7 = some (jI x7) → lv 8 = some (jI x8) → lv 9 = some (jI x9) → lv 10 = some (jI s.2.1) → ey (mm_xt L xs) 2 276 169 lv [] (jhm b s.2.2) r)) (fun x => (jsm (fun y => (∀ lv : jL, ey (mm_xt L xs) 2 276 209 lv [] (jhm b y) r)) (fun z => (∀ lv : jL, lv 0 = some (jR (some 76)) → lv 1 = some (jI x1) → lv 2 = some (jI x2) → lv 3 = some (jI x3) → lv 4 = some (jI x4) → lv 5 = some (jI x5) → lv 6 = some (jI z.1) → ey (mm_xt L xs) 2 276 294 lv [] (jhm b z.2) r)) x)) o) : ∀ lv : jL, lv 0 = some (jR (some 76)) → lv 1 = some (jI x1) → lv 2 = some (jI x2) → lv 3 = some (jI x3) → lv 4 = some (jI x4) → lv 5 = some (jI x5) → lv 6 = some (jI x6) → lv 7 = some (jI x7) → lv 8 = some (jI x8) → lv 9 = some (jI x9) → lv 10 = some (jI x10) → ey (mm_xt L xs) 2 276 169 lv [] (jhm b m) r := by
  intro lv f0 f1 f2 f3 f4 f5 f6 f7 f8 f9 f10
  unfold jd_276_s169 at e
  refine ey_iload (cd_276 rfl) f10 ?_
  refine ey_iload (cd_276 rfl) f8 ?_
  by_cases q22 : (jw x8) ≤ (jw x10)
  · rw [if_pos q22] at e
    refine ey_cge (cd_276 rfl) rfl rfl rfl q22 ?_
    cases e
    exact K lv f0 f1 f2 f3 f4 f5 f6
  · rw [if_neg q22] at e
    refine ey_nge (cd_276 rfl) rfl rfl rfl q22 ?_
    refine ey_aload_n (cd_276 rfl) f0 ?_
    refine ey_getf_i (z := (m 76 52)) (cd_276 rfl) mt_276 rfl rfl rfl (jhm_gi hb 52) ?_
    by_cases q23 : (jw (m 76 52)) = 0
    · rw [if_pos q23] at e
      refine ey_yne (cd_276 rfl) rfl rfl (fun w => w q23) ?_
      refine ey_iload (cd_276 rfl) f7 ?_
      refine ey_iconst (cd_276 rfl) ?_
      by_cases q24 : (jw x7) = 3
      · rw [if_pos q24] at e
        refine ey_nne (cd_276 rfl) rfl rfl (show jw 3 = 3 from by decide) (fun w => w q24) ?_
        refine ey_aload_n (cd_276 rfl) f0 ?_
        refine ey_bipush (cd_276 rfl) (by decide) ?_
        obtain ⟨q25, e26, e⟩ := jbind e
        refine ey_cv (s0 := [jI 8, jR (some 76)]) (s1 := []) (st' := [jI q25.1]) (cd_276 rfl) mt_276 mt_228 rfl rfl rfl (jhm_is hb) rfl (jsml_s rfl) rfl (ok_228 hb h6 e26) ?_
        refine ey_goto (cd_276 rfl) rfl ?_
        exact jk_276_b200 hb h6 e K lv f0 f1 f2 f3 f4 f5 f6 f7 f8 f9 f10
      · rw [if_neg q24] at e
        refine ey_cne (cd_276 rfl) rfl rfl (show jw 3 = 3 from by decide) q24 ?_
        refine ey_iload (cd_276 rfl) f9 ?_
        exact jk_276_b200 hb h6 e K lv f0 f1 f2 f3 f4 f5 f6 f7 f8 f9 f10
    · rw [if_neg q23] at e
      refine ey_zne (cd_276 rfl) rfl rfl q23 ?_
      cases e
      exact K lv f0 f1 f2 f3 f4 f5 f6
theorem jk_276_l169 {L : Nat} {xs : Nat → Int32} {b : jH} (hb : 152 ≤ b.1) (h6 : b.1 ≤ 1000000) {x1 : Int} {x2 : Int} {x3 : Int} {x4 : Int} {x5 : Int} {x7 : Int} {x8 : Int} {x9 : Int} {x6 : Int} {x10 : Int} {m : jM} {x : (jM ⊕ (Int × jM))} {r : mm_R} (e : jd_276_l169 x1 x2 x3 x4 x5 x7 x8 x9 x6 x10 m = some x) (K : (jsm (fun y => (∀ lv : jL, ey (mm_xt L xs) 2 276 209 lv [] (jhm b y) r)) (fun z => (∀ lv : jL, lv 0 = some (jR (some 76)) → lv 1 = some (jI x1) → lv 2 = some (jI x2) → lv 3 = some (jI x3) → lv 4 = some (jI x4) → lv 5 = some (jI x5) → lv 6 = some (jI z.1) → ey (mm_xt L xs) 2 276 294 lv [] (jhm b z.2) r)) x)) : ∀ lv : jL, lv 0 = some (jR (some 76)) → lv 1 = some (jI x1) → lv 2 = some (jI x2) → lv 3 = some (jI x3) → lv 4 = some (jI x4) → lv 5 = some (jI x5) → lv 6 = some (jI x6) → lv 7 = some (jI x7) → lv 8 = some (jI x8) → lv 9 = some (jI x9) → lv 10 = some (jI x10) → ey (mm_xt L xs) 2 276 169 lv [] (jhm b m) r := by
  unfold jd_276_l169 at e
  exact jlp_ok2 (P := fun s => ∀ lv : jL, lv 0 = some (jR (some 76)) → lv 1 = some (jI x1) → lv 2 = some (jI x2) → lv 3 = some (jI x3) → lv 4 = some (jI x4) → lv 5 = some (jI x5) → lv 6 = some (jI s.1) → lv 7 = some (jI x7) → lv 8 = some (jI x8) → lv 9 = some (jI x9) → lv 10 = some (jI s.2.1) → ey (mm_xt L xs) 2 276 169 lv [] (jhm b s.2.2) r) (Q := fun x => (jsm (fun y => (∀ lv : jL, ey (mm_xt L xs) 2 276 209 lv [] (jhm b y) r)) (fun z => (∀ lv : jL, lv 0 = some (jR (some 76)) → lv 1 = some (jI x1) → lv 2 = some (jI x2) → lv 3 = some (jI x3) → lv 4 = some (jI x4) → lv 5 = some (jI x5) → lv 6 = some (jI z.1) → ey (mm_xt L xs) 2 276 294 lv [] (jhm b z.2) r)) x)) (fun s q hq hk => jk_276_s169 hb h6 hq hk) jfu _ x e K
set_option maxRecDepth 100000 in
theorem jk_276_b164 {L : Nat} {xs : Nat → Int32} {b : jH} (hb : 152 ≤ b.1) (h6 : b.1 ≤ 1000000) {x1 : Int} {x2 : Int} {x3 : Int} {x4 : Int} {x5 : Int} {x6 : Int} {x7 : Int} {x8 : Int} {y0 : Int} {m : jM} {o : ((Int × jM) ⊕ (jM ⊕ jM))} {r : mm_R} (e : jd_276_b164 x1 x2 x3 x4 x5 x6 x7 x8 y0 m = some o) (K : jsm (fun s => (∀ lv : jL, lv 0 = some (jR (some 76)) → lv 1 = some (jI x1) → lv 2 = some (jI x2) → lv 3 = some (jI x3) → lv 4 = some (jI x4) → lv 5 = some (jI x5) → lv 6 = some (jI s.1) → ey (mm_xt L xs) 2 276 36 lv [] (jhm b s.2) r)) (fun x => (jsm (fun y => (∀ lv : jL, ey (mm_xt L xs) 2 276 209 lv [] (jhm b y) r)) (fun z => (∀ lv : jL, ey (mm_xt L xs) 2 276 297 lv [] (jhm b z) r)) x)) o) : ∀ lv : jL, lv 0 = some (jR (some 76)) → lv 1 = some (jI x1) → lv 2 = some (jI x2) → lv 3 = some (jI x3) → lv 4 = some (jI x4) → lv 5 = some (jI x5) → lv 6 = some (jI x6) → lv 7 = some (jI x7) → lv 8 = some (jI x8) → ey (mm_xt L xs) 2 276 164 lv [jI y0] (jhm b m) r := by
  intro lv f0 f1 f2 f3 f4 f5 f6 f7 f8
  unfold jd_276_b164 at e
  refine ey_istore (cd_276 rfl) mt_276 rfl ?_
  refine ey_iconst (cd_276 rfl) ?_
  refine ey_istore (cd_276 rfl) mt_276 rfl ?_
  obtain ⟨x40, e41, e⟩ := jbind e
  refine jk_276_l169 hb h6 e41 ?_ (jup (jup lv 9 (jI y0)) 10 (jI 0)) f0 f1 f2 f3 f4 f5 f6 f7 (jup_o rfl (jup_pi (lv := lv) (j := 8) (v := jI y0) (z := x8) f8)) (jup_pi (lv := (jup lv 9 (jI y0))) (j := 9) (v := jI 0) (z := y0) rfl) rfl
  cases x40 with
  | inl y42 =>
    replace e : (some (.inr (.inl y42)) : Option ((Int × jM) ⊕ (jM ⊕ jM))) = some o := e
    intro lv 
    cases e
    exact K lv 
  | inr y43 =>
    replace e : (some (.inl (y43.1, y43.2)) : Option ((Int × jM) ⊕ (jM ⊕ jM))) = some o := e
    intro lv g0 g1 g2 g3 g4 g5 g6
    refine ey_goto (cd_276 rfl) rfl ?_
    cases e
    exact K lv g0 g1 g2 g3 g4 g5 g6
set_option maxRecDepth 100000 in
theorem jk_276_b163 {L : Nat} {xs : Nat → Int32} {b : jH} (hb : 152 ≤ b.1) (h6 : b.1 ≤ 1000000) {x1 : Int} {x2 : Int} {x3 : Int} {x4 : Int} {x5 : Int} {x6 : Int} {x7 : Int} {x8 : Int} {m : jM} {o : ((Int × jM) ⊕ (jM ⊕ jM))} {r : mm_R} (e : jd_276_b163 x1 x2 x3 x4 x5 x6 x7 x8 m = some o) (K : jsm (fun s => (∀ lv : jL, lv 0 = some (jR (some 76)) → lv 1 = some (jI x1) → lv 2 = some (jI x2) → lv 3 = some (jI x3) → lv 4 = some (jI x4) → lv 5 = some (jI x5) → lv 6 = some (jI s.1) → ey (mm_xt L xs) 2 276 36 lv [] (jhm b s.2) r)) (fun x => (jsm (fun y => (∀ lv : jL, ey (mm_xt L xs) 2 276 209 lv [] (jhm b y) r)) (fun z => (∀ lv : jL, ey (mm_xt L xs) 2 276 297 lv [] (jhm b z) r)) x)) o) : ∀ lv : jL, lv 0 = some (jR (some 76)) → lv 1 = some (jI x1) → lv 2 = some (jI x2) → lv 3 = some (jI x3) → lv 4 = some (jI x4) → lv 5 = some (jI x5) → lv 6 = some (jI x6) → lv 7 = some (jI x7) → lv 8 = some (jI x8) → ey (mm_xt L xs) 2 276 163 lv [] (jhm b m) r := by
  intro lv f0 f1 f2 f3 f4 f5 f6 f7 f8
  unfold jd_276_b163 at e
  refine ey_iconst (cd_276 rfl) ?_
  exact jk_276_b164 hb h6 e K lv f0 f1 f2 f3 f4 f5 f6 f7 f8
set_option maxRecDepth 100000 in
theorem jk_276_b142 {L : Nat} {xs : Nat → Int32} {b : jH} (hb : 152 ≤ b.1) (h6 : b.1 ≤ 1000000) {x1 : Int} {x2 : Int} {x3 : Int} {x4 : Int} {x5 : Int} {x6 : Int} {x7 : Int} {x8 : Int} {m : jM} {o : ((Int × jM) ⊕ (jM ⊕ jM))} {r : mm_R} (e : jd_276_b142 x1 x2 x3 x4 x5 x6 x7 x8 m = some o) (K : jsm (fun s => (∀ lv : jL, lv 0 = some (jR (some 76)) → lv 1 = some (jI x1) → lv 2 = some (jI x2) → lv 3 = some (jI x3) → lv 4 = some (jI x4) → lv 5 = some (jI x5) → lv 6 = some (jI s.1) → ey (mm_xt L xs) 2 276 36 lv [] (jhm b s.2) r)) (fun x => (jsm (fun y => (∀ lv : jL, ey (mm_xt L xs) 2 276 209 lv [] (jhm b y) r)) (fun z => (∀ lv : jL, ey (mm_xt L xs) 2 276 297 lv [] (jhm b z) r)) x)) o) : ∀ lv : jL, lv 0 = some (jR (some 76)) → lv 1 = some (jI x1) → lv 2 = some (jI x2) → lv 3 = some (jI x3) → lv 4 = some (jI x4) → lv 5 = some (jI x5) → lv 6 = some (jI x6) → lv 7 = some (jI x7) → lv 8 = some (jI x8) → ey (mm_xt L xs) 2 276 142 lv [] (jhm b m) r := by
  intro lv f0 f1 f2 f3 f4 f5 f6 f7 f8
  unfold jd_276_b142 at e
  refine ey_aload_n (cd_276 rfl) f0 ?_
  refine ey_getf_i (z := (m 76 52)) (cd_276 rfl) mt_276 rfl rfl rfl (jhm_gi hb 52) ?_
  by_cases q18 : (jw (m 76 52)) = 0
  · rw [if_pos q18] at e
    refine ey_yne (cd_276 rfl) rfl rfl (fun w => w q18) ?_
    refine ey_iload (cd_276 rfl) f7 ?_
    by_cases q19 : (jw x7) = 0
    · rw [if_pos q19] at e
      refine ey_yne (cd_276 rfl) rfl rfl (fun w => w q19) ?_
      refine ey_aload_n (cd_276 rfl) f0 ?_
      refine ey_bipush (cd_276 rfl) (by decide) ?_
      obtain ⟨q20, e21, e⟩ := jbind e
      refine ey_cv (s0 := [jI 8, jR (some 76)]) (s1 := []) (st' := [jI q20.1]) (cd_276 rfl) mt_276 mt_228 rfl rfl rfl (jhm_is hb) rfl (jsml_s rfl) rfl (ok_228 hb h6 e21) ?_
      refine ey_goto (cd_276 rfl) rfl ?_
      exact jk_276_b164 hb h6 e K lv f0 f1 f2 f3 f4 f5 f6 f7 f8
    · rw [if_neg q19] at e
      refine ey_zne (cd_276 rfl) rfl rfl q19 ?_
      exact jk_276_b163 hb h6 e K lv f0 f1 f2 f3 f4 f5 f6 f7 f8
  · rw [if_neg q18] at e
    refine ey_zne (cd_276 rfl) rfl rfl q18 ?_
    exact jk_276_b163 hb h6 e K lv f0 f1 f2 f3 f4 f5 f6 f7 f8
set_option maxRecDepth 100000 in
theorem jk_276_b137 {L : Nat} {xs : Nat → Int32} {b : jH} (hb : 152 ≤ b.1) (h6 : b.1 ≤ 1000000) {x1 : Int} {x2 : Int} {x3 : Int} {x4 : Int} {x5 : Int} {x6 : Int} {x7 : Int} {x8 : Int} {m : jM} {o : ((Int × jM) ⊕ (jM ⊕ jM))} {r : mm_R} (e : jd_276_b137 x1 x2 x3 x4 x5 x6 x7 x8 m = some o) (K : jsm (fun s => (∀ lv : jL, lv 0 = some (jR (some 76)) → lv 1 = some (jI x1) → lv 2 = some (jI x2) → lv 3 = some (jI x3) → lv 4 = some (jI x4) → lv 5 = some (jI x5) → lv 6 = some (jI s.1) → ey (mm_xt L xs) 2 276 36 lv [] (jhm b s.2) r)) (fun x => (jsm (fun y => (∀ lv : jL, ey (mm_xt L xs) 2 276 209 lv [] (jhm b y) r)) (fun z => (∀ lv : jL, ey (mm_xt L xs) 2 276 297 lv [] (jhm b z) r)) x)) o) : ∀ lv : jL, lv 0 = some (jR (some 76)) → lv 1 = some (jI x1) → lv 2 = some (jI x2) → lv 3 = some (jI x3) → lv 4 = some (jI x4) → lv 5 = some (jI x5) → lv 6 = some (jI x6) → lv 7 = some (jI x7) → lv 8 = some (jI x8) → ey (mm_xt L xs) 2 276 137 lv [] (jhm b m) r := by
  intro lv f0 f1 f2 f3 f4 f5 f6 f7 f8
  unfold jd_276_b137 at e
  refine ey_aload_n (cd_276 rfl) f0 ?_
  refine ey_iconst (cd_276 rfl) ?_
  obtain ⟨m16, e17, e⟩ := jbind e
  refine ey_cv (s0 := [jI 4, jR (some 76)]) (s1 := []) (st' := []) (cd_276 rfl) mt_276 mt_231 rfl rfl rfl (jhm_is hb) rfl (jsml_s rfl) rfl (mm_Runs.up (d := 1) (by decide) (ok_231 hb h6 e17)) ?_
  exact jk_276_b142 hb h6 e K lv f0 f1 f2 f3 f4 f5 f6 f7 f8
set_option maxRecDepth 100000 in
theorem jk_276_b106 {L : Nat} {xs : Nat → Int32} {b : jH} (hb : 152 ≤ b.1) (h6 : b.1 ≤ 1000000) {x1 : Int} {x2 : Int} {x3 : Int} {x4 : Int} {x5 : Int} {x6 : Int} {x7 : Int} {y0 : Int} {m : jM} {o : ((Int × jM) ⊕ (jM ⊕ jM))} {r : mm_R} (e : jd_276_b106 x1 x2 x3 x4 x5 x6 x7 y0 m = some o) (K : jsm (fun s => (∀ lv : jL, lv 0 = some (jR (some 76)) → lv 1 = some (jI x1) → lv 2 = some (jI x2) → lv 3 = some (jI x3) → lv 4 = some (jI x4) → lv 5 = some (jI x5) → lv 6 = some (jI s.1) → ey (mm_xt L xs) 2 276 36 lv [] (jhm b s.2) r)) (fun x => (jsm (fun y => (∀ lv : jL, ey (mm_xt L xs) 2 276 209 lv [] (jhm b y) r)) (fun z => (∀ lv : jL, ey (mm_xt L xs) 2 276 297 lv [] (jhm b z) r)) x)) o) : ∀ lv : jL, lv 0 = some (jR (some 76)) → lv 1 = some (jI x1) → lv 2 = some (jI x2) → lv 3 = some (jI x3) → lv 4 = some (jI x4) → lv 5 = some (jI x5) → lv 6 = some (jI x6) → lv 7 = some (jI x7) → ey (mm_xt L xs) 2 276 106 lv [jI y0] (jhm b m) r := by
  intro lv f0 f1 f2 f3 f4 f5 f6 f7
  unfold jd_276_b106 at e
  refine ey_istore (cd_276 rfl) mt_276 rfl ?_
  refine ey_aload_n (cd_276 rfl) f0 ?_
  refine ey_getf_i (z := (m 76 52)) (cd_276 rfl) mt_276 rfl rfl rfl (jhm_gi hb 52) ?_
  by_cases q14 : (jw (m 76 52)) = 0
  · rw [if_pos q14] at e
    refine ey_yne (cd_276 rfl) rfl rfl (fun w => w q14) ?_
    refine ey_iload (cd_276 rfl) f6 ?_
    refine ey_iload (cd_276 rfl) rfl ?_
    refine ey_iadd (cd_276 rfl) ?_
    refine ey_iload (cd_276 rfl) f4 ?_
    by_cases q15 : (jw x4) < (jw (x6 + y0))
    · rw [if_pos q15] at e
      refine ey_cgt (cd_276 rfl) rfl rfl rfl q15 ?_
      exact jk_276_b137 hb h6 e K (jup lv 8 (jI y0)) f0 f1 f2 f3 f4 f5 f6 (jup_pi (lv := lv) (j := 7) (v := jI y0) (z := x7) f7) rfl
    · rw [if_neg q15] at e
      refine ey_ngt (cd_276 rfl) rfl rfl rfl q15 ?_
      refine ey_iload (cd_276 rfl) (jup_pi (lv := lv) (j := 7) (v := jI y0) (z := x7) f7) ?_
      refine ey_iconst (cd_276 rfl) ?_
      by_cases q44 : (jw x7) = 2
      · rw [if_pos q44] at e
        refine ey_nne (cd_276 rfl) rfl rfl (show jw 2 = 2 from by decide) (fun w => w q44) ?_
        refine ey_iload (cd_276 rfl) f6 ?_
        refine ey_iload_n (cd_276 rfl) f3 ?_
        by_cases q45 : (jw x3) ≤ (jw x6)
        · rw [if_pos q45] at e
          refine ey_cge (cd_276 rfl) rfl rfl rfl q45 ?_
          exact jk_276_b142 hb h6 e K (jup lv 8 (jI y0)) f0 f1 f2 f3 f4 f5 f6 (jup_pi (lv := lv) (j := 7) (v := jI y0) (z := x7) f7) rfl
        · rw [if_neg q45] at e
          refine ey_nge (cd_276 rfl) rfl rfl rfl q45 ?_
          exact jk_276_b137 hb h6 e K (jup lv 8 (jI y0)) f0 f1 f2 f3 f4 f5 f6 (jup_pi (lv := lv) (j := 7) (v := jI y0) (z := x7) f7) rfl
      · rw [if_neg q44] at e
        refine ey_cne (cd_276 rfl) rfl rfl (show jw 2 = 2 from by decide) q44 ?_
        exact jk_276_b142 hb h6 e K (jup lv 8 (jI y0)) f0 f1 f2 f3 f4 f5 f6 (jup_pi (lv := lv) (j := 7) (v := jI y0) (z := x7) f7) rfl
  · rw [if_neg q14] at e
    refine ey_zne (cd_276 rfl) rfl rfl q14 ?_
    exact jk_276_b142 hb h6 e K (jup lv 8 (jI y0)) f0 f1 f2 f3 f4 f5 f6 (jup_pi (lv := lv) (j := 7) (v := jI y0) (z := x7) f7) rfl
set_option maxRecDepth 100000 in
theorem jk_276_b89 {L : Nat} {xs : Nat → Int32} {b : jH} (hb : 152 ≤ b.1) (h6 : b.1 ≤ 1000000) {x1 : Int} {x2 : Int} {x3 : Int} {x4 : Int} {x5 : Int} {x6 : Int} {x7 : Int} {m : jM} {o : ((Int × jM) ⊕ (jM ⊕ jM))} {r : mm_R} (e : jd_276_b89 x1 x2 x3 x4 x5 x6 x7 m = some o) (K : jsm (fun s => (∀ lv : jL, lv 0 = some (jR (some 76)) → lv 1 = some (jI x1) → lv 2 = some (jI x2) → lv 3 = some (jI x3) → lv 4 = some (jI x4) → lv 5 = some (jI x5) → lv 6 = some (jI s.1) → ey (mm_xt L xs) 2 276 36 lv [] (jhm b s.2) r)) (fun x => (jsm (fun y => (∀ lv : jL, ey (mm_xt L xs) 2 276 209 lv [] (jhm b y) r)) (fun z => (∀ lv : jL, ey (mm_xt L xs) 2 276 297 lv [] (jhm b z) r)) x)) o) : ∀ lv : jL, lv 0 = some (jR (some 76)) → lv 1 = some (jI x1) → lv 2 = some (jI x2) → lv 3 = some (jI x3) → lv 4 = some (jI x4) → lv 5 = some (jI x5) → lv 6 = some (jI x6) → lv 7 = some (jI x7) → ey (mm_xt L xs) 2 276 89 lv [] (jhm b m) r := by
  intro lv f0 f1 f2 f3 f4 f5 f6 f7
  unfold jd_276_b89 at e
  refine ey_aload_n (cd_276 rfl) f0 ?_
  refine ey_getf_i (z := (m 76 52)) (cd_276 rfl) mt_276 rfl rfl rfl (jhm_gi hb 52) ?_
  by_cases q11 : (jw (m 76 52)) = 0
  · rw [if_pos q11] at e
    refine ey_yne (cd_276 rfl) rfl rfl (fun w => w q11) ?_
    refine ey_aload_n (cd_276 rfl) f0 ?_
    obtain ⟨q12, e13, e⟩ := jbind e
    refine ey_cv (s0 := [jR (some 76)]) (s1 := []) (st' := [jI q12.1]) (cd_276 rfl) mt_276 mt_229 rfl rfl rfl (jhm_is hb) rfl (jsml_s rfl) rfl (ok_229 hb h6 e13) ?_
    refine ey_iconst (cd_276 rfl) ?_
    refine ey_iadd (cd_276 rfl) ?_
    refine ey_goto (cd_276 rfl) rfl ?_
    exact jk_276_b106 hb h6 e K lv f0 f1 f2 f3 f4 f5 f6 f7
  · rw [if_neg q11] at e
    refine ey_zne (cd_276 rfl) rfl rfl q11 ?_
    refine ey_iconst (cd_276 rfl) ?_
    exact jk_276_b106 hb h6 e K lv f0 f1 f2 f3 f4 f5 f6 f7
set_option maxRecDepth 100000 in
theorem jk_276_b84 {L : Nat} {xs : Nat → Int32} {b : jH} (hb : 152 ≤ b.1) (h6 : b.1 ≤ 1000000) {x1 : Int} {x2 : Int} {x3 : Int} {x4 : Int} {x5 : Int} {x6 : Int} {x7 : Int} {m : jM} {o : ((Int × jM) ⊕ (jM ⊕ jM))} {r : mm_R} (e : jd_276_b84 x1 x2 x3 x4 x5 x6 x7 m = some o) (K : jsm (fun s => (∀ lv : jL, lv 0 = some (jR (some 76)) → lv 1 = some (jI x1) → lv 2 = some (jI x2) → lv 3 = some (jI x3) → lv 4 = some (jI x4) → lv 5 = some (jI x5) → lv 6 = some (jI s.1) → ey (mm_xt L xs) 2 276 36 lv [] (jhm b s.2) r)) (fun x => (jsm (fun y => (∀ lv : jL, ey (mm_xt L xs) 2 276 209 lv [] (jhm b y) r)) (fun z => (∀ lv : jL, ey (mm_xt L xs) 2 276 297 lv [] (jhm b z) r)) x)) o) : ∀ lv : jL, lv 0 = some (jR (some 76)) → lv 1 = some (jI x1) → lv 2 = some (jI x2) → lv 3 = some (jI x3) → lv 4 = some (jI x4) → lv 5 = some (jI x5) → lv 6 = some (jI x6) → lv 7 = some (jI x7) → ey (mm_xt L xs) 2 276 84 lv [] (jhm b m) r := by
  intro lv f0 f1 f2 f3 f4 f5 f6 f7
  unfold jd_276_b84 at e
  refine ey_aload_n (cd_276 rfl) f0 ?_
  refine ey_iconst (cd_276 rfl) ?_
  obtain ⟨m9, e10, e⟩ := jbind e
  refine ey_cv (s0 := [jI 2, jR (some 76)]) (s1 := []) (st' := []) (cd_276 rfl) mt_276 mt_231 rfl rfl rfl (jhm_is hb) rfl (jsml_s rfl) rfl (mm_Runs.up (d := 1) (by decide) (ok_231 hb h6 e10)) ?_
  exact jk_276_b89 hb h6 e K lv f0 f1 f2 f3 f4 f5 f6 f7
set_option maxRecDepth 100000 in
theorem jk_276_s36 {L : Nat} {xs : Nat → Int32} {b : jH} (hb : 152 ≤ b.1) (h6 : b.1 ≤ 1000000) {x1 : Int} {x2 : Int} {x3 : Int} {x4 : Int} {x5 : Int} {x6 : Int} {m : jM} {o : ((Int × jM) ⊕ (jM ⊕ jM))} {r : mm_R} (e : jd_276_s36 x1 x2 x3 x4 x5 x6 m = some o) (K : jsm (fun s => (∀ lv : jL, lv 0 = some (jR (some 76)) → lv 1 = some (jI x1) → lv 2 = some (jI x2) → lv 3 = some (jI x3) → lv 4 = some (jI x4) → lv 5 = some (jI x5) → lv 6 = some (jI s.1) → ey (mm_xt L xs) 2 276 36 lv [] (jhm b s.2) r)) (fun x => (jsm (fun y => (∀ lv : jL, ey (mm_xt L xs) 2 276 209 lv [] (jhm b y) r)) (fun z => (∀ lv : jL, ey (mm_xt L xs) 2 276 297 lv [] (jhm b z) r)) x)) o) : ∀ lv : jL, lv 0 = some (jR (some 76)) → lv 1 = some (jI x1) → lv 2 = some (jI x2) → lv 3 = some (jI x3) → lv 4 = some (jI x4) → lv 5 = some (jI x5) → lv 6 = some (jI x6) → ey (mm_xt L xs) 2 276 36 lv [] (jhm b m) r := by
  intro lv f0 f1 f2 f3 f4 f5 f6
  unfold jd_276_s36 at e
  refine ey_iload (cd_276 rfl) f6 ?_
  refine ey_iload (cd_276 rfl) f4 ?_
  by_cases q3 : (jw x4) ≤ (jw x6)
  · rw [if_pos q3] at e
    refine ey_cge (cd_276 rfl) rfl rfl rfl q3 ?_
    cases e
    exact K lv 
  · rw [if_neg q3] at e
    refine ey_nge (cd_276 rfl) rfl rfl rfl q3 ?_
    refine ey_aload_n (cd_276 rfl) f0 ?_
    refine ey_getf_i (z := (m 76 52)) (cd_276 rfl) mt_276 rfl rfl rfl (jhm_gi hb 52) ?_
    by_cases q4 : (jw (m 76 52)) = 0
    · rw [if_pos q4] at e
      refine ey_yne (cd_276 rfl) rfl rfl (fun w => w q4) ?_
      refine ey_aload_n (cd_276 rfl) f0 ?_
      obtain ⟨q5, e6, e⟩ := jbind e
      refine ey_cv (s0 := [jR (some 76)]) (s1 := []) (st' := [jI q5.1]) (cd_276 rfl) mt_276 mt_229 rfl rfl rfl (jhm_is hb) rfl (jsml_s rfl) rfl (ok_229 hb h6 e6) ?_
      refine ey_istore (cd_276 rfl) mt_276 rfl ?_
      refine ey_aload_n (cd_276 rfl) f0 ?_
      refine ey_getf_i (z := (q5.2 76 52)) (cd_276 rfl) mt_276 rfl rfl rfl (jhm_gi hb 52) ?_
      by_cases q7 : (jw (q5.2 76 52)) = 0
      · rw [if_pos q7] at e
        refine ey_yne (cd_276 rfl) rfl rfl (fun w => w q7) ?_
        refine ey_iload (cd_276 rfl) rfl ?_
        refine ey_iconst (cd_276 rfl) ?_
        by_cases q8 : 3 < (jw q5.1)
        · rw [if_pos q8] at e
          refine ey_cgt (cd_276 rfl) rfl rfl (show jw 3 = 3 from by decide) q8 ?_
          exact jk_276_b84 hb h6 e K (jup lv 7 (jI q5.1)) f0 f1 f2 f3 f4 f5 (jup_pi (lv := lv) (j := 6) (v := jI q5.1) (z := x6) f6) rfl
        · rw [if_neg q8] at e
          refine ey_ngt (cd_276 rfl) rfl rfl (show jw 3 = 3 from by decide) q8 ?_
          refine ey_iload (cd_276 rfl) rfl ?_
          refine ey_iconst (cd_276 rfl) ?_
          by_cases q46 : (jw q5.1) = 1
          · rw [if_pos q46] at e
            refine ey_nne (cd_276 rfl) rfl rfl (show jw 1 = 1 from by decide) (fun w => w q46) ?_
            refine ey_aload_n (cd_276 rfl) f0 ?_
            refine ey_getf_r (cd_276 rfl) mt_276 rfl rfl rfl (jhm_gr (q := 102) hb rfl) ?_
            refine ey_iload_n (cd_276 rfl) f1 ?_
            obtain ⟨v47, e48, e⟩ := jbind e
            refine ey_iald (cd_276 rfl) (jhm_ai hb h6 (by decide) rfl e48) ?_
            by_cases q49 : (jw v47) = 0
            · rw [if_pos q49] at e
              refine ey_yne (cd_276 rfl) rfl rfl (fun w => w q49) ?_
              exact jk_276_b84 hb h6 e K (jup lv 7 (jI q5.1)) f0 f1 f2 f3 f4 f5 (jup_pi (lv := lv) (j := 6) (v := jI q5.1) (z := x6) f6) rfl
            · rw [if_neg q49] at e
              refine ey_zne (cd_276 rfl) rfl rfl q49 ?_
              exact jk_276_b89 hb h6 e K (jup lv 7 (jI q5.1)) f0 f1 f2 f3 f4 f5 (jup_pi (lv := lv) (j := 6) (v := jI q5.1) (z := x6) f6) rfl
          · rw [if_neg q46] at e
            refine ey_cne (cd_276 rfl) rfl rfl (show jw 1 = 1 from by decide) q46 ?_
            exact jk_276_b89 hb h6 e K (jup lv 7 (jI q5.1)) f0 f1 f2 f3 f4 f5 (jup_pi (lv := lv) (j := 6) (v := jI q5.1) (z := x6) f6) rfl
      · rw [if_neg q7] at e
        refine ey_zne (cd_276 rfl) rfl rfl q7 ?_
        exact jk_276_b89 hb h6 e K (jup lv 7 (jI q5.1)) f0 f1 f2 f3 f4 f5 (jup_pi (lv := lv) (j := 6) (v := jI q5.1) (z := x6) f6) rfl
    · rw [if_neg q4] at e
      refine ey_zne (cd_276 rfl) rfl rfl q4 ?_
      cases e
      exact K lv 
theorem jk_276_l36 {L : Nat} {xs : Nat → Int32} {b : jH} (hb : 152 ≤ b.1) (h6 : b.1 ≤ 1000000) {x1 : Int} {x2 : Int} {x3 : Int} {x4 : Int} {x5 : Int} {x6 : Int} {m : jM} {x : (jM ⊕ jM)} {r : mm_R} (e : jd_276_l36 x1 x2 x3 x4 x5 x6 m = some x) (K : (jsm (fun y => (∀ lv : jL, ey (mm_xt L xs) 2 276 209 lv [] (jhm b y) r)) (fun z => (∀ lv : jL, ey (mm_xt L xs) 2 276 297 lv [] (jhm b z) r)) x)) : ∀ lv : jL, lv 0 = some (jR (some 76)) → lv 1 = some (jI x1) → lv 2 = some (jI x2) → lv 3 = some (jI x3) → lv 4 = some (jI x4) → lv 5 = some (jI x5) → lv 6 = some (jI x6) → ey (mm_xt L xs) 2 276 36 lv [] (jhm b m) r := by
  unfold jd_276_l36 at e
  exact jlp_ok2 (P := fun s => ∀ lv : jL, lv 0 = some (jR (some 76)) → lv 1 = some (jI x1) → lv 2 = some (jI x2) → lv 3 = some (jI x3) → lv 4 = some (jI x4) → lv 5 = some (jI x5) → lv 6 = some (jI s.1) → ey (mm_xt L xs) 2 276 36 lv [] (jhm b s.2) r) (Q := fun x => (jsm (fun y => (∀ lv : jL, ey (mm_xt L xs) 2 276 209 lv [] (jhm b y) r)) (fun z => (∀ lv : jL, ey (mm_xt L xs) 2 276 297 lv [] (jhm b z) r)) x)) (fun s q hq hk => jk_276_s36 hb h6 hq hk) jfu _ x e K
set_option maxRecDepth 100000 in
theorem ok_276 {L : Nat} {xs : Nat → Int32} {b : jH} (hb : 152 ≤ b.1) (h6 : b.1 ≤ 1000000) {p0 : Int} {p1 : Int} {m : jM} {o : jM} (e : jd_276 p0 p1 m = some o) : mm_Runs (mm_xt L xs) 3 276 ([jR (some 76), jI p0, jI p1].map jcv) (jaH (jhm b m)) (.inl (none, jaH (jhm b o))) := by
  refine ey_run0 _ mt_276 (jsl_s rfl) ?_
  unfold jd_276 at e
  refine ey_aload_n (cd_276 rfl) rfl ?_
  refine ey_getf_i (z := (m 76 33)) (cd_276 rfl) mt_276 rfl rfl rfl (jhm_gi hb 33) ?_
  refine ey_iload_n (cd_276 rfl) rfl ?_
  refine ey_cs (s0 := [jI p1, jI (m 76 33)]) (s1 := []) (st' := [jI (jd_206 (m 76 33) p1)]) (cd_276 rfl) mt_276 mt_206 rfl (by decide) rfl rfl (jsml_s rfl) rfl (mm_Runs.up (d := 1) (by decide) (ok_206 )) ?_
  refine ey_istore_n (cd_276 rfl) mt_276 rfl ?_
  refine ey_iload_n (cd_276 rfl) rfl ?_
  refine ey_aload_n (cd_276 rfl) rfl ?_
  refine ey_getf_i (z := (m 76 34)) (cd_276 rfl) mt_276 rfl rfl rfl (jhm_gi hb 34) ?_
  refine ey_iload_n (cd_276 rfl) (jup_pi (lv := (jlf (jla 0 [jR (some 76), jI p0, jI p1]))) (j := 2) (v := jI (jd_206 (m 76 33) p1)) (z := p1) rfl) ?_
  refine ey_cs (s0 := [jI p1, jI (m 76 34), jI (jd_206 (m 76 33) p1)]) (s1 := [jI (jd_206 (m 76 33) p1)]) (st' := [jI (jd_206 (m 76 34) p1), jI (jd_206 (m 76 33) p1)]) (cd_276 rfl) mt_276 mt_206 rfl (by decide) rfl rfl (jsml_s rfl) rfl (mm_Runs.up (d := 1) (by decide) (ok_206 )) ?_
  refine ey_imul (cd_276 rfl) ?_
  obtain ⟨z1, e2, e⟩ := jbind e
  refine ey_rs (s0 := [jI ((jd_206 (m 76 33) p1) * (jd_206 (m 76 34) p1))]) (s1 := [jI z1]) (by rw [show ((jd_206 (m 76 33) p1) * (jd_206 (m 76 34) p1)) = z1 from Option.some.inj e2]) ?_
  refine ey_istore (cd_276 rfl) mt_276 rfl ?_
  refine ey_sipush (cd_276 rfl) (by decide) ?_
  refine ey_iload_n (cd_276 rfl) rfl ?_
  refine ey_imul (cd_276 rfl) ?_
  refine ey_iload_n (cd_276 rfl) (jup_o rfl (jup_pi (lv := (jlf (jla 0 [jR (some 76), jI p0, jI p1]))) (j := 2) (v := jI (jd_206 (m 76 33) p1)) (z := p1) rfl)) ?_
  refine ey_cs (s0 := [jI p1, jI (864 * p0)]) (s1 := [jI (864 * p0)]) (st' := [jI (jd_207 p1), jI (864 * p0)]) (cd_276 rfl) mt_276 mt_207 rfl (by decide) rfl rfl (jsml_s rfl) rfl (mm_Runs.up (d := 1) (by decide) (ok_207 )) ?_
  refine ey_iadd (cd_276 rfl) ?_
  refine ey_istore (cd_276 rfl) mt_276 rfl ?_
  refine ey_iconst (cd_276 rfl) ?_
  refine ey_istore (cd_276 rfl) mt_276 rfl ?_
  obtain ⟨x50, e51, e⟩ := jbind e
  refine jk_276_l36 hb h6 e51 ?_ (jup (jup (jup (jup (jlf (jla 0 [jR (some 76), jI p0, jI p1])) 3 (jI (jd_206 (m 76 33) p1))) 4 (jI z1)) 5 (jI ((864 * p0) + (jd_207 p1)))) 6 (jI 0)) rfl rfl (jup_o rfl (jup_o rfl (jup_o rfl (jup_pi (lv := (jlf (jla 0 [jR (some 76), jI p0, jI p1]))) (j := 2) (v := jI (jd_206 (m 76 33) p1)) (z := p1) rfl)))) (jup_o rfl (jup_o rfl (jup_pi (lv := (jup (jlf (jla 0 [jR (some 76), jI p0, jI p1])) 3 (jI (jd_206 (m 76 33) p1)))) (j := 3) (v := jI z1) (z := (jd_206 (m 76 33) p1)) rfl))) (jup_o rfl (jup_pi (lv := (jup (jup (jlf (jla 0 [jR (some 76), jI p0, jI p1])) 3 (jI (jd_206 (m 76 33) p1))) 4 (jI z1))) (j := 4) (v := jI ((864 * p0) + (jd_207 p1))) (z := z1) rfl)) (jup_pi (lv := (jup (jup (jup (jlf (jla 0 [jR (some 76), jI p0, jI p1])) 3 (jI (jd_206 (m 76 33) p1))) 4 (jI z1)) 5 (jI ((864 * p0) + (jd_207 p1))))) (j := 5) (v := jI 0) (z := ((864 * p0) + (jd_207 p1))) rfl) rfl
  cases x50 with
  | inl y52 =>
    replace e : (some y52 : Option jM) = some o := e
    intro lv 
    cases e
    exact ey_retv (cd_276 rfl) mt_276 rfl
  | inr y53 =>
    replace e : (some y53 : Option jM) = some o := e
    intro lv 
    cases e
    exact ey_retv (cd_276 rfl) mt_276 rfl
theorem cd_277 {pc : Nat} {i : Instr × Nat} (h : mm_lk mm_c277 pc = some i) : mm_cd 277 pc = some i := h
theorem mt_277 : mm_MT 277 = (12, 6, none, 1, 0, []) := rfl
set_option maxRecDepth 100000 in
theorem jk_277_s7 {L : Nat} {xs : Nat → Int32} {b : jH} (hb : 152 ≤ b.1) (h6 : b.1 ≤ 1000000) {x1 : Int} {x2 : Int} {m : jM} {o : ((Int × jM) ⊕ jM)} {r : mm_R} (e : jd_277_s7 x1 x2 m = some o) (K : jsm (fun s => (∀ lv : jL, lv 0 = some (jR (some 76)) → lv 1 = some (jI x1) → lv 2 = some (jI s.1) → ey (mm_xt L xs) 3 277 7 lv [] (jhm b s.2) r)) (fun x => (∀ lv : jL, lv 0 = some (jR (some 76)) → lv 1 = some (jI x1) → ey (mm_xt L xs) 3 277 31 lv [] (jhm b x) r)) o) : ∀ lv : jL, lv 0 = some (jR (some 76)) → lv 1 = some (jI x1) → lv 2 = some (jI x2) → ey (mm_xt L xs) 3 277 7 lv [] (jhm b m) r := by
  intro lv f0 f1 f2
  unfold jd_277_s7 at e
  refine ey_iload_n (cd_277 rfl) f2 ?_
  refine ey_iconst (cd_277 rfl) ?_
  by_cases q3 : 3 ≤ (jw x2)
  · rw [if_pos q3] at e
    refine ey_cge (cd_277 rfl) rfl rfl (show jw 3 = 3 from by decide) q3 ?_
    cases e
    exact K lv f0 f1
  · rw [if_neg q3] at e
    refine ey_nge (cd_277 rfl) rfl rfl (show jw 3 = 3 from by decide) q3 ?_
    refine ey_aload_n (cd_277 rfl) f0 ?_
    refine ey_getf_i (z := (m 76 52)) (cd_277 rfl) mt_277 rfl rfl rfl (jhm_gi hb 52) ?_
    by_cases q4 : (jw (m 76 52)) = 0
    · rw [if_pos q4] at e
      refine ey_yne (cd_277 rfl) rfl rfl (fun w => w q4) ?_
      refine ey_aload_n (cd_277 rfl) f0 ?_
      refine ey_iload_n (cd_277 rfl) f1 ?_
      refine ey_iload_n (cd_277 rfl) f2 ?_
      obtain ⟨m5, e6, e⟩ := jbind e
      refine ey_cv (s0 := [jI x2, jI x1, jR (some 76)]) (s1 := []) (st' := []) (cd_277 rfl) mt_277 mt_276 rfl rfl rfl (jhm_is hb) rfl (jsml_s rfl) rfl (ok_276 hb h6 e6) ?_
      refine ey_iinc (cd_277 rfl) mt_277 rfl f2 ?_
      refine ey_goto (cd_277 rfl) rfl ?_
      cases e
      exact K (jup lv 2 (jI (x2 + 1))) f0 (jup_pi (lv := lv) (j := 1) (v := jI (x2 + 1)) (z := x1) f1) rfl
    · rw [if_neg q4] at e
      refine ey_zne (cd_277 rfl) rfl rfl q4 ?_
      cases e
      exact K lv f0 f1
theorem jk_277_l7 {L : Nat} {xs : Nat → Int32} {b : jH} (hb : 152 ≤ b.1) (h6 : b.1 ≤ 1000000) {x1 : Int} {x2 : Int} {m : jM} {x : jM} {r : mm_R} (e : jd_277_l7 x1 x2 m = some x) (K : (∀ lv : jL, lv 0 = some (jR (some 76)) → lv 1 = some (jI x1) → ey (mm_xt L xs) 3 277 31 lv [] (jhm b x) r)) : ∀ lv : jL, lv 0 = some (jR (some 76)) → lv 1 = some (jI x1) → lv 2 = some (jI x2) → ey (mm_xt L xs) 3 277 7 lv [] (jhm b m) r := by
  unfold jd_277_l7 at e
  exact jlp_ok2 (P := fun s => ∀ lv : jL, lv 0 = some (jR (some 76)) → lv 1 = some (jI x1) → lv 2 = some (jI s.1) → ey (mm_xt L xs) 3 277 7 lv [] (jhm b s.2) r) (Q := fun x => (∀ lv : jL, lv 0 = some (jR (some 76)) → lv 1 = some (jI x1) → ey (mm_xt L xs) 3 277 31 lv [] (jhm b x) r)) (fun s q hq hk => jk_277_s7 hb h6 hq hk) jfu _ x e K
set_option maxRecDepth 100000 in
theorem jk_277_b165 {L : Nat} {xs : Nat → Int32} {b : jH} (hb : 152 ≤ b.1) (h6 : b.1 ≤ 1000000)  {m : jM} {o : jM} (e : jd_277_b165  m = some o) : ∀ lv : jL, ey (mm_xt L xs) 3 277 165 lv [] (jhm b m) (.inl (none, jaH (jhm b o))) := by
  intro lv 
  unfold jd_277_b165 at e
  cases e
  exact ey_retv (cd_277 rfl) mt_277 rfl
set_option maxRecDepth 100000 in
theorem jk_277_b128 {L : Nat} {xs : Nat → Int32} {b : jH} (hb : 152 ≤ b.1) (h6 : b.1 ≤ 1000000) {x1 : Int} {x2 : Int} {x3 : Int} {x4 : Int} {x5 : Int} {m : jM} {o : ((Int × Int × jM) ⊕ (Int × jM))} {r : mm_R} (e : jd_277_b128 x1 x2 x3 x4 x5 m = some o) (K : jsm (fun s => (∀ lv : jL, lv 0 = some (jR (some 76)) → lv 1 = some (jI x1) → lv 2 = some (jI s.1) → lv 3 = some (jI x3) → lv 4 = some (jI x4) → lv 5 = some (jI s.2.1) → ey (mm_xt L xs) 3 277 73 lv [] (jhm b s.2.2) r)) (fun x => (∀ lv : jL, lv 0 = some (jR (some 76)) → lv 1 = some (jI x1) → lv 2 = some (jI x.1) → lv 3 = some (jI x3) → ey (mm_xt L xs) 3 277 137 lv [] (jhm b x.2) r)) o) : ∀ lv : jL, lv 0 = some (jR (some 76)) → lv 1 = some (jI x1) → lv 2 = some (jI x2) → lv 3 = some (jI x3) → lv 4 = some (jI x4) → lv 5 = some (jI x5) → ey (mm_xt L xs) 3 277 128 lv [] (jhm b m) r := by
  intro lv f0 f1 f2 f3 f4 f5
  unfold jd_277_b128 at e
  refine ey_iinc (cd_277 rfl) mt_277 rfl f2 ?_
  refine ey_iinc (cd_277 rfl) mt_277 rfl f5 ?_
  refine ey_goto (cd_277 rfl) rfl ?_
  cases e
  exact K (jup (jup lv 2 (jI (x2 + (-1)))) 5 (jI (x5 + 1))) f0 (jup_o rfl (jup_pi (lv := lv) (j := 1) (v := jI (x2 + (-1))) (z := x1) f1)) rfl f3 (jup_pi (lv := (jup lv 2 (jI (x2 + (-1))))) (j := 4) (v := jI (x5 + 1)) (z := x4) f4) rfl
set_option maxRecDepth 100000 in
theorem jk_277_b125 {L : Nat} {xs : Nat → Int32} {b : jH} (hb : 152 ≤ b.1) (h6 : b.1 ≤ 1000000) {x1 : Int} {x2 : Int} {x3 : Int} {x4 : Int} {x5 : Int} {y0 : Int} {y1 : Int} {y2 : Int} {y3 : Int} {y4 : Int} {m : jM} {o : ((Int × Int × jM) ⊕ (Int × jM))} {r : mm_R} (e : jd_277_b125 x1 x2 x3 x4 x5 y0 y1 y2 y3 y4 m = some o) (K : jsm (fun s => (∀ lv : jL, lv 0 = some (jR (some 76)) → lv 1 = some (jI x1) → lv 2 = some (jI s.1) → lv 3 = some (jI x3) → lv 4 = some (jI x4) → lv 5 = some (jI s.2.1) → ey (mm_xt L xs) 3 277 73 lv [] (jhm b s.2.2) r)) (fun x => (∀ lv : jL, lv 0 = some (jR (some 76)) → lv 1 = some (jI x1) → lv 2 = some (jI x.1) → lv 3 = some (jI x3) → ey (mm_xt L xs) 3 277 137 lv [] (jhm b x.2) r)) o) : ∀ lv : jL, lv 0 = some (jR (some 76)) → lv 1 = some (jI x1) → lv 2 = some (jI x2) → lv 3 = some (jI x3) → lv 4 = some (jI x4) → lv 5 = some (jI x5) → ey (mm_xt L xs) 3 277 125 lv [jI y0, jI y1, jI y2, jI y3, jI y4, jR (some 76)] (jhm b m) r := by
  intro lv f0 f1 f2 f3 f4 f5
  unfold jd_277_b125 at e
  obtain ⟨m27, e28, e⟩ := jbind e
  refine ey_cv (s0 := [jI y0, jI y1, jI y2, jI y3, jI y4, jR (some 76)]) (s1 := []) (st' := []) (cd_277 rfl) mt_277 mt_241 rfl rfl rfl (jhm_is hb) rfl (jsml_s rfl) rfl (ok_241 hb h6 e28) ?_
  exact jk_277_b128 hb h6 e K lv f0 f1 f2 f3 f4 f5
set_option maxRecDepth 100000 in
theorem jk_277_s73 {L : Nat} {xs : Nat → Int32} {b : jH} (hb : 152 ≤ b.1) (h6 : b.1 ≤ 1000000) {x1 : Int} {x3 : Int} {x4 : Int} {x2 : Int} {x5 : Int} {m : jM} {o : ((Int × Int × jM) ⊕ (Int × jM))} {r : mm_R} (e : jd_277_s73 x1 x3 x4 x2 x5 m = some o) (K : jsm (fun s => (∀ lv : jL, lv 0 = some (jR (some 76)) → lv 1 = some (jI x1) → lv 2 = some (jI s.1) → lv 3 = some (jI x3) → lv 4 = some (jI x4) → lv 5 = some (jI s.2.1) → ey (mm_xt L xs) 3 277 73 lv [] (jhm b s.2.2) r)) (fun x => (∀ lv : jL, lv 0 = some (jR (some 76)) → lv 1 = some (jI x1) → lv 2 = some (jI x.1) → lv 3 = some (jI x3) → ey (mm_xt L xs) 3 277 137 lv [] (jhm b x.2) r)) o) : ∀ lv : jL, lv 0 = some (jR (some 76)) → lv 1 = some (jI x1) → lv 2 = some (jI x2) → lv 3 = some (jI x3) → lv 4 = some (jI x4) → lv 5 = some (jI x5) → ey (mm_xt L xs) 3 277 73 lv [] (jhm b m) r := by
  intro lv f0 f1 f2 f3 f4 f5
  unfold jd_277_s73 at e
  refine ey_iload (cd_277 rfl) f5 ?_
  refine ey_iload (cd_277 rfl) f4 ?_
  refine ey_aload_n (cd_277 rfl) f0 ?_
  refine ey_getf_i (z := (m 76 34)) (cd_277 rfl) mt_277 rfl rfl rfl (jhm_gi hb 34) ?_
  refine ey_iload_n (cd_277 rfl) f3 ?_
  refine ey_cs (s0 := [jI x3, jI (m 76 34), jI x4, jI x5]) (s1 := [jI x4, jI x5]) (st' := [jI (jd_206 (m 76 34) x3), jI x4, jI x5]) (cd_277 rfl) mt_277 mt_206 rfl (by decide) rfl rfl (jsml_s rfl) rfl (mm_Runs.up (d := 1) (by decide) (ok_206 )) ?_
  refine ey_imul (cd_277 rfl) ?_
  by_cases q18 : (jw (x4 * (jd_206 (m 76 34) x3))) ≤ (jw x5)
  · rw [if_pos q18] at e
    refine ey_cge (cd_277 rfl) rfl rfl rfl q18 ?_
    cases e
    exact K lv f0 f1 f2 f3
  · rw [if_neg q18] at e
    refine ey_nge (cd_277 rfl) rfl rfl rfl q18 ?_
    refine ey_iload_n (cd_277 rfl) f2 ?_
    by_cases q19 : 0 < (jw x2)
    · rw [if_pos q19] at e
      refine ey_zgt (cd_277 rfl) rfl rfl q19 ?_
      exact jk_277_b128 hb h6 e K lv f0 f1 f2 f3 f4 f5
    · rw [if_neg q19] at e
      refine ey_ygt (cd_277 rfl) rfl rfl q19 ?_
      refine ey_aload_n (cd_277 rfl) f0 ?_
      refine ey_iload_n (cd_277 rfl) f1 ?_
      refine ey_iload_n (cd_277 rfl) f3 ?_
      refine ey_iload (cd_277 rfl) f5 ?_
      refine ey_iload (cd_277 rfl) f4 ?_
      obtain ⟨u20, e21, e⟩ := jbind e
      refine ey_irem (cd_277 rfl) (jnz_s e21) ?_
      refine ey_iload (cd_277 rfl) f5 ?_
      refine ey_iload (cd_277 rfl) f4 ?_
      obtain ⟨u22, e23, e⟩ := jbind e
      refine ey_idiv (cd_277 rfl) (jnz_s e23) ?_
      refine ey_aload_n (cd_277 rfl) f0 ?_
      refine ey_getf_r (cd_277 rfl) mt_277 rfl rfl rfl (jhm_gr (q := 102) hb rfl) ?_
      refine ey_iload_n (cd_277 rfl) f1 ?_
      obtain ⟨v24, e25, e⟩ := jbind e
      refine ey_iald (cd_277 rfl) (jhm_ai hb h6 (by decide) rfl e25) ?_
      by_cases q26 : (jw v24) = 0
      · rw [if_pos q26] at e
        refine ey_yne (cd_277 rfl) rfl rfl (fun w => w q26) ?_
        refine ey_iconst (cd_277 rfl) ?_
        refine ey_goto (cd_277 rfl) rfl ?_
        exact jk_277_b125 hb h6 e K lv f0 f1 f2 f3 f4 f5
      · rw [if_neg q26] at e
        refine ey_zne (cd_277 rfl) rfl rfl q26 ?_
        refine ey_aload_n (cd_277 rfl) f0 ?_
        refine ey_iload_n (cd_277 rfl) f1 ?_
        refine ey_iconst (cd_277 rfl) ?_
        obtain ⟨v29, e30, e⟩ := jbind e
        refine ey_cv (s0 := [jI 1, jI x1, jR (some 76), jI (jdiv x5 x4), jI (jrem x5 x4), jI x3, jI x1, jR (some 76)]) (s1 := [jI (jdiv x5 x4), jI (jrem x5 x4), jI x3, jI x1, jR (some 76)]) (st' := [jI v29, jI (jdiv x5 x4), jI (jrem x5 x4), jI x3, jI x1, jR (some 76)]) (cd_277 rfl) mt_277 mt_239 rfl rfl rfl (jhm_is hb) rfl (jsml_s rfl) rfl (mm_Runs.up (d := 1) (by decide) (ok_239 hb h6 e30)) ?_
        exact jk_277_b125 hb h6 e K lv f0 f1 f2 f3 f4 f5
theorem jk_277_l73 {L : Nat} {xs : Nat → Int32} {b : jH} (hb : 152 ≤ b.1) (h6 : b.1 ≤ 1000000) {x1 : Int} {x3 : Int} {x4 : Int} {x2 : Int} {x5 : Int} {m : jM} {x : (Int × jM)} {r : mm_R} (e : jd_277_l73 x1 x3 x4 x2 x5 m = some x) (K : (∀ lv : jL, lv 0 = some (jR (some 76)) → lv 1 = some (jI x1) → lv 2 = some (jI x.1) → lv 3 = some (jI x3) → ey (mm_xt L xs) 3 277 137 lv [] (jhm b x.2) r)) : ∀ lv : jL, lv 0 = some (jR (some 76)) → lv 1 = some (jI x1) → lv 2 = some (jI x2) → lv 3 = some (jI x3) → lv 4 = some (jI x4) → lv 5 = some (jI x5) → ey (mm_xt L xs) 3 277 73 lv [] (jhm b m) r := by
  unfold jd_277_l73 at e
  exact jlp_ok2 (P := fun s => ∀ lv : jL, lv 0 = some (jR (some 76)) → lv 1 = some (jI x1) → lv 2 = some (jI s.1) → lv 3 = some (jI x3) → lv 4 = some (jI x4) → lv 5 = some (jI s.2.1) → ey (mm_xt L xs) 3 277 73 lv [] (jhm b s.2.2) r) (Q := fun x => (∀ lv : jL, lv 0 = some (jR (some 76)) → lv 1 = some (jI x1) → lv 2 = some (jI x.1) → lv 3 = some (jI x3) → ey (mm_xt L xs) 3 277 137 lv [] (jhm b x.2) r)) (fun s q hq hk => jk_277_s73 hb h6 hq hk) jfu _ x e K
set_option maxRecDepth 100000 in
theorem jk_277_s55 {L : Nat} {xs : Nat → Int32} {b : jH} (hb : 152 ≤ b.1) (h6 : b.1 ≤ 1000000) {x1 : Int} {x2 : Int} {x3 : Int} {m : jM} {o : ((Int × Int × jM) ⊕ jM)} {r : mm_R} (e : jd_277_s55 x1 x2 x3 m = some o) (K : jsm (fun s => (∀ lv : jL, lv 0 = some (jR (some 76)) → lv 1 = some (jI x1) → lv 2 = some (jI s.1) → lv 3 = some (jI s.2.1) → ey (mm_xt L xs) 3 277 55 lv [] (jhm b s.2.2) r)) (fun x => (∀ lv : jL, ey (mm_xt L xs) 3 277 143 lv [] (jhm b x) r)) o) : ∀ lv : jL, lv 0 = some (jR (some 76)) → lv 1 = some (jI x1) → lv 2 = some (jI x2) → lv 3 = some (jI x3) → ey (mm_xt L xs) 3 277 55 lv [] (jhm b m) r := by
  intro lv f0 f1 f2 f3
  unfold jd_277_s55 at e
  refine ey_iload_n (cd_277 rfl) f3 ?_
  refine ey_iconst (cd_277 rfl) ?_
  by_cases q17 : 3 ≤ (jw x3)
  · rw [if_pos q17] at e
    refine ey_cge (cd_277 rfl) rfl rfl (show jw 3 = 3 from by decide) q17 ?_
    cases e
    exact K lv 
  · rw [if_neg q17] at e
    refine ey_nge (cd_277 rfl) rfl rfl (show jw 3 = 3 from by decide) q17 ?_
    refine ey_aload_n (cd_277 rfl) f0 ?_
    refine ey_getf_i (z := (m 76 33)) (cd_277 rfl) mt_277 rfl rfl rfl (jhm_gi hb 33) ?_
    refine ey_iload_n (cd_277 rfl) f3 ?_
    refine ey_cs (s0 := [jI x3, jI (m 76 33)]) (s1 := []) (st' := [jI (jd_206 (m 76 33) x3)]) (cd_277 rfl) mt_277 mt_206 rfl (by decide) rfl rfl (jsml_s rfl) rfl (mm_Runs.up (d := 1) (by decide) (ok_206 )) ?_
    refine ey_istore (cd_277 rfl) mt_277 rfl ?_
    refine ey_iconst (cd_277 rfl) ?_
    refine ey_istore (cd_277 rfl) mt_277 rfl ?_
    obtain ⟨x31, e32, e⟩ := jbind e
    refine jk_277_l73 hb h6 e32 ?_ (jup (jup lv 4 (jI (jd_206 (m 76 33) x3))) 5 (jI 0)) f0 f1 f2 (jup_o rfl (jup_pi (lv := lv) (j := 3) (v := jI (jd_206 (m 76 33) x3)) (z := x3) f3)) (jup_pi (lv := (jup lv 4 (jI (jd_206 (m 76 33) x3)))) (j := 4) (v := jI 0) (z := (jd_206 (m 76 33) x3)) rfl) rfl
    intro lv g0 g1 g2 g3
    refine ey_iinc (cd_277 rfl) mt_277 rfl g3 ?_
    refine ey_goto (cd_277 rfl) rfl ?_
    cases e
    exact K (jup lv 3 (jI (x3 + 1))) g0 g1 (jup_pi (lv := lv) (j := 2) (v := jI (x3 + 1)) (z := x31.1) g2) rfl
theorem jk_277_l55 {L : Nat} {xs : Nat → Int32} {b : jH} (hb : 152 ≤ b.1) (h6 : b.1 ≤ 1000000) {x1 : Int} {x2 : Int} {x3 : Int} {m : jM} {x : jM} {r : mm_R} (e : jd_277_l55 x1 x2 x3 m = some x) (K : (∀ lv : jL, ey (mm_xt L xs) 3 277 143 lv [] (jhm b x) r)) : ∀ lv : jL, lv 0 = some (jR (some 76)) → lv 1 = some (jI x1) → lv 2 = some (jI x2) → lv 3 = some (jI x3) → ey (mm_xt L xs) 3 277 55 lv [] (jhm b m) r := by
  unfold jd_277_l55 at e
  exact jlp_ok2 (P := fun s => ∀ lv : jL, lv 0 = some (jR (some 76)) → lv 1 = some (jI x1) → lv 2 = some (jI s.1) → lv 3 = some (jI s.2.1) → ey (mm_xt L xs) 3 277 55 lv [] (jhm b s.2.2) r) (Q := fun x => (∀ lv : jL, ey (mm_xt L xs) 3 277 143 lv [] (jhm b x) r)) (fun s q hq hk => jk_277_s55 hb h6 hq hk) jfu _ x e K
set_option maxRecDepth 100000 in
theorem ok_277 {L : Nat} {xs : Nat → Int32} {b : jH} (hb : 152 ≤ b.1) (h6 : b.1 ≤ 1000000) {p0 : Int} {m : jM} {o : jM} (e : jd_277 p0 m = some o) : mm_Runs (mm_xt L xs) 4 277 ([jR (some 76), jI p0].map jcv) (jaH (jhm b m)) (.inl (none, jaH (jhm b o))) := by
  refine ey_run0 _ mt_277 (jsl_s rfl) ?_
  unfold jd_277 at e
  refine ey_aload_n (cd_277 rfl) rfl ?_
  refine ey_iconst (cd_277 rfl) ?_
  obtain ⟨m1, e2, e⟩ := jbind e
  refine ey_putf_i (cd_277 rfl) mt_277 rfl rfl rfl (jhm_pi' (k := 69) hb e2) ?_
  refine ey_iconst (cd_277 rfl) ?_
  refine ey_istore_n (cd_277 rfl) mt_277 rfl ?_
  obtain ⟨x7, e8, e⟩ := jbind e
  refine jk_277_l7 hb h6 e8 ?_ (jup (jlf (jla 0 [jR (some 76), jI p0])) 2 (jI 0)) rfl (jup_pi (lv := (jlf (jla 0 [jR (some 76), jI p0]))) (j := 1) (v := jI 0) (z := p0) rfl) rfl
  intro lv g0 g1
  refine ey_aload_n (cd_277 rfl) g0 ?_
  refine ey_getf_i (z := (x7 76 52)) (cd_277 rfl) mt_277 rfl rfl rfl (jhm_gi hb 52) ?_
  by_cases q9 : (jw (x7 76 52)) ≤ 0
  · rw [if_pos q9] at e
    refine ey_zle (cd_277 rfl) rfl rfl q9 ?_
    refine ey_aload_n (cd_277 rfl) g0 ?_
    obtain ⟨m10, e11, e⟩ := jbind e
    refine ey_cv (s0 := [jR (some 76)]) (s1 := []) (st' := []) (cd_277 rfl) mt_277 mt_269 rfl rfl rfl (jhm_is hb) rfl (jsml_s rfl) rfl (mm_Runs.up (d := 2) (by decide) (ok_269 hb h6 e11)) ?_
    refine ey_aload_n (cd_277 rfl) g0 ?_
    refine ey_getf_i (z := (m10 76 52)) (cd_277 rfl) mt_277 rfl rfl rfl (jhm_gi hb 52) ?_
    by_cases q12 : (jw (m10 76 52)) ≤ 0
    · rw [if_pos q12] at e
      refine ey_zle (cd_277 rfl) rfl rfl q12 ?_
      exact jk_277_b165 hb h6 e lv 
    · rw [if_neg q12] at e
      refine ey_yle (cd_277 rfl) rfl rfl q12 ?_
      refine ey_aload_n (cd_277 rfl) g0 ?_
      refine ey_getf_r (cd_277 rfl) mt_277 rfl rfl rfl (jhm_gr (q := 108) hb rfl) ?_
      refine ey_iload_n (cd_277 rfl) g1 ?_
      refine ey_aload_n (cd_277 rfl) g0 ?_
      refine ey_getf_i (z := (m10 76 69)) (cd_277 rfl) mt_277 rfl rfl rfl (jhm_gi hb 69) ?_
      obtain ⟨m13, e14, e⟩ := jbind e
      refine ey_iast (cd_277 rfl) (jhm_ta hb (by decide) rfl e14) ?_
      exact jk_277_b165 hb h6 e lv 
  · rw [if_neg q9] at e
    refine ey_yle (cd_277 rfl) rfl rfl q9 ?_
    refine ey_aload_n (cd_277 rfl) g0 ?_
    refine ey_getf_r (cd_277 rfl) mt_277 rfl rfl rfl (jhm_gr (q := 108) hb rfl) ?_
    refine ey_iload_n (cd_277 rfl) g1 ?_
    refine ey_aload_n (cd_277 rfl) g0 ?_
    refine ey_getf_i (z := (x7 76 69)) (cd_277 rfl) mt_277 rfl rfl rfl (jhm_gi hb 69) ?_
    obtain ⟨m15, e16, e⟩ := jbind e
    refine ey_iast (cd_277 rfl) (jhm_ta hb (by decide) rfl e16) ?_
    refine ey_aload_n (cd_277 rfl) g0 ?_
    refine ey_getf_i (z := (m15 76 69)) (cd_277 rfl) mt_277 rfl rfl rfl (jhm_gi hb 69) ?_
    refine ey_istore_n (cd_277 rfl) mt_277 rfl ?_
    refine ey_iconst (cd_277 rfl) ?_
    refine ey_istore_n (cd_277 rfl) mt_277 rfl ?_
    obtain ⟨x33, e34, e⟩ := jbind e
    refine jk_277_l55 hb h6 e34 ?_ (jup (jup lv 2 (jI (m15 76 69))) 3 (jI 0)) g0 (jup_o rfl (jup_pi (lv := lv) (j := 1) (v := jI (m15 76 69)) (z := p0) g1)) (jup_pi (lv := (jup lv 2 (jI (m15 76 69)))) (j := 2) (v := jI 0) (z := (m15 76 69)) rfl) rfl
    intro lv 
    cases e
    exact ey_retv (cd_277 rfl) mt_277 rfl
theorem cd_278 {pc : Nat} {i : Instr × Nat} (h : mm_lk mm_c278 pc = some i) : mm_cd 278 pc = some i := h
theorem mt_278 : mm_MT 278 = (12, 3, none, 2, 0, []) := rfl
set_option maxRecDepth 100000 in
theorem jk_278_b91 {L : Nat} {xs : Nat → Int32} {b : jH} (hb : 152 ≤ b.1) (h6 : b.1 ≤ 1000000) {x1 : Int} {m : jM} {o : jM} (e : jd_278_b91 x1 m = some o) : ∀ lv : jL, lv 0 = some (jR (some 76)) → lv 1 = some (jI x1) → ey (mm_xt L xs) 8 278 91 lv [] (jhm b m) (.inl (none, jaH (jhm b o))) := by
  intro lv f0 f1
  unfold jd_278_b91 at e
  refine ey_aload_n (cd_278 rfl) f0 ?_
  refine ey_getf_r (cd_278 rfl) mt_278 rfl rfl rfl (jhm_gr (q := 107) hb rfl) ?_
  refine ey_iload_n (cd_278 rfl) f1 ?_
  refine ey_aload_n (cd_278 rfl) f0 ?_
  refine ey_getf_i (z := (m 76 52)) (cd_278 rfl) mt_278 rfl rfl rfl (jhm_gi hb 52) ?_
  obtain ⟨m21, e22, e⟩ := jbind e
  refine ey_iast (cd_278 rfl) (jhm_ta hb (by decide) rfl e22) ?_
  cases e
  exact ey_retv (cd_278 rfl) mt_278 rfl
set_option maxRecDepth 100000 in
theorem jk_278_b30 {L : Nat} {xs : Nat → Int32} {b : jH} (hb : 152 ≤ b.1) (h6 : b.1 ≤ 1000000) {x1 : Int} {y0 : Int} {m : jM} {o : jM} (e : jd_278_b30 x1 y0 m = some o) : ∀ lv : jL, lv 0 = some (jR (some 76)) → lv 1 = some (jI x1) → ey (mm_xt L xs) 8 278 30 lv [jI y0, jR (some 76)] (jhm b m) (.inl (none, jaH (jhm b o))) := by
  intro lv f0 f1
  unfold jd_278_b30 at e
  obtain ⟨m8, e9, e⟩ := jbind e
  refine ey_putf_i (cd_278 rfl) mt_278 rfl rfl rfl (jhm_pi' (k := 50) hb e9) ?_
  refine ey_aload_n (cd_278 rfl) f0 ?_
  refine ey_iconst (cd_278 rfl) ?_
  obtain ⟨m10, e11, e⟩ := jbind e
  refine ey_putf_i (cd_278 rfl) mt_278 rfl rfl rfl (jhm_pi' (k := 51) hb e11) ?_
  refine ey_aload_n (cd_278 rfl) f0 ?_
  refine ey_iconst (cd_278 rfl) ?_
  obtain ⟨m12, e13, e⟩ := jbind e
  refine ey_putf_i (cd_278 rfl) mt_278 rfl rfl rfl (jhm_pi' (k := 52) hb e13) ?_
  refine ey_aload_n (cd_278 rfl) f0 ?_
  refine ey_getf_r (cd_278 rfl) mt_278 rfl rfl rfl (jhm_gr (q := 108) hb rfl) ?_
  refine ey_iload_n (cd_278 rfl) f1 ?_
  refine ey_iconst (cd_278 rfl) ?_
  obtain ⟨m14, e15, e⟩ := jbind e
  refine ey_iast (cd_278 rfl) (jhm_ta hb (by decide) rfl e15) ?_
  refine ey_aload_n (cd_278 rfl) f0 ?_
  refine ey_iload_n (cd_278 rfl) f1 ?_
  obtain ⟨m16, e17, e⟩ := jbind e
  refine ey_cv (s0 := [jI x1, jR (some 76)]) (s1 := []) (st' := []) (cd_278 rfl) mt_278 mt_242 rfl rfl rfl (jhm_is hb) rfl (jsml_s rfl) rfl (mm_Runs.up (d := 1) (by decide) (ok_242 hb h6 e17)) ?_
  refine ey_aload_n (cd_278 rfl) f0 ?_
  refine ey_getf_i (z := (m16 76 32)) (cd_278 rfl) mt_278 rfl rfl rfl (jhm_gi hb 32) ?_
  by_cases q18 : (jw (m16 76 32)) = 0
  · rw [if_pos q18] at e
    refine ey_yne (cd_278 rfl) rfl rfl (fun w => w q18) ?_
    refine ey_aload_n (cd_278 rfl) f0 ?_
    refine ey_iload_n (cd_278 rfl) f1 ?_
    obtain ⟨m19, e20, e⟩ := jbind e
    refine ey_cv (s0 := [jI x1, jR (some 76)]) (s1 := []) (st' := []) (cd_278 rfl) mt_278 mt_270 rfl rfl rfl (jhm_is hb) rfl (jsml_s rfl) rfl (ok_270 hb h6 e20) ?_
    refine ey_goto (cd_278 rfl) rfl ?_
    exact jk_278_b91 hb h6 e lv f0 f1
  · rw [if_neg q18] at e
    refine ey_zne (cd_278 rfl) rfl rfl q18 ?_
    refine ey_aload_n (cd_278 rfl) f0 ?_
    refine ey_getf_i (z := (m16 76 32)) (cd_278 rfl) mt_278 rfl rfl rfl (jhm_gi hb 32) ?_
    refine ey_iconst (cd_278 rfl) ?_
    by_cases q23 : (jw (m16 76 32)) = 1
    · rw [if_pos q23] at e
      refine ey_nne (cd_278 rfl) rfl rfl (show jw 1 = 1 from by decide) (fun w => w q23) ?_
      refine ey_aload_n (cd_278 rfl) f0 ?_
      refine ey_iload_n (cd_278 rfl) f1 ?_
      obtain ⟨m24, e25, e⟩ := jbind e
      refine ey_cv (s0 := [jI x1, jR (some 76)]) (s1 := []) (st' := []) (cd_278 rfl) mt_278 mt_275 rfl rfl rfl (jhm_is hb) rfl (jsml_s rfl) rfl (mm_Runs.up (d := 5) (by decide) (ok_275 hb h6 e25)) ?_
      refine ey_goto (cd_278 rfl) rfl ?_
      exact jk_278_b91 hb h6 e lv f0 f1
    · rw [if_neg q23] at e
      refine ey_cne (cd_278 rfl) rfl rfl (show jw 1 = 1 from by decide) q23 ?_
      refine ey_aload_n (cd_278 rfl) f0 ?_
      refine ey_iload_n (cd_278 rfl) f1 ?_
      obtain ⟨m26, e27, e⟩ := jbind e
      refine ey_cv (s0 := [jI x1, jR (some 76)]) (s1 := []) (st' := []) (cd_278 rfl) mt_278 mt_277 rfl rfl rfl (jhm_is hb) rfl (jsml_s rfl) rfl (mm_Runs.up (d := 4) (by decide) (ok_277 hb h6 e27)) ?_
      exact jk_278_b91 hb h6 e lv f0 f1
set_option maxRecDepth 100000 in
theorem ok_278 {L : Nat} {xs : Nat → Int32} {b : jH} (hb : 152 ≤ b.1) (h6 : b.1 ≤ 1000000) {p0 : Int} {p1 : Int} {m : jM} {o : jM} (e : jd_278 p0 p1 m = some o) : mm_Runs (mm_xt L xs) 9 278 ([jR (some 76), jI p0, jI p1].map jcv) (jaH (jhm b m)) (.inl (none, jaH (jhm b o))) := by
  refine ey_run0 _ mt_278 (jsl_s rfl) ?_
  unfold jd_278 at e
  refine ey_aload_n (cd_278 rfl) rfl ?_
  refine ey_aload_n (cd_278 rfl) rfl ?_
  refine ey_getf_r (cd_278 rfl) mt_278 rfl rfl rfl (jhm_gr (q := 106) hb rfl) ?_
  refine ey_iload_n (cd_278 rfl) rfl ?_
  obtain ⟨v1, e2, e⟩ := jbind e
  refine ey_iald (cd_278 rfl) (jhm_ai hb h6 (by decide) rfl e2) ?_
  refine ey_iconst (cd_278 rfl) ?_
  refine ey_iadd (cd_278 rfl) ?_
  obtain ⟨m3, e4, e⟩ := jbind e
  refine ey_putf_i (cd_278 rfl) mt_278 rfl rfl rfl (jhm_pi' (k := 49) hb e4) ?_
  refine ey_aload_n (cd_278 rfl) rfl ?_
  refine ey_iload_n (cd_278 rfl) rfl ?_
  by_cases q5 : (jw p1) = 0
  · rw [if_pos q5] at e
    refine ey_zeq (cd_278 rfl) rfl rfl q5 ?_
    refine ey_bipush (cd_278 rfl) (by decide) ?_
    refine ey_aload_n (cd_278 rfl) rfl ?_
    refine ey_getf_r (cd_278 rfl) mt_278 rfl rfl rfl (jhm_gr (q := 105) hb rfl) ?_
    refine ey_iload_n (cd_278 rfl) rfl ?_
    obtain ⟨v6, e7, e⟩ := jbind e
    refine ey_iald (cd_278 rfl) (jhm_ai hb h6 (by decide) rfl e7) ?_
    refine ey_imul (cd_278 rfl) ?_
    exact jk_278_b30 hb h6 e (jlf (jla 0 [jR (some 76), jI p0, jI p1])) rfl rfl
  · rw [if_neg q5] at e
    refine ey_yeq (cd_278 rfl) rfl rfl q5 ?_
    refine ey_iconst (cd_278 rfl) ?_
    refine ey_goto (cd_278 rfl) rfl ?_
    exact jk_278_b30 hb h6 e (jlf (jla 0 [jR (some 76), jI p0, jI p1])) rfl rfl
theorem cd_279 {pc : Nat} {i : Instr × Nat} (h : mm_lk mm_c279 pc = some i) : mm_cd 279 pc = some i := h
theorem mt_279 : mm_MT 279 = (12, 5, some .int, 4, 0, []) := rfl
set_option maxRecDepth 100000 in
theorem ok_279 {L : Nat} {xs : Nat → Int32} {b : jH} (hb : 152 ≤ b.1) (h6 : b.1 ≤ 1000000) {p0 : Int} {p1 : Int} {p2 : Int} {p3 : Int} {m : jM} {o : Int} (e : jd_279 p0 p1 p2 p3 m = some o) : mm_Runs (mm_xt L xs) 2 279 ([jR (some 76), jI p0, jI p1, jI p2, jI p3].map jcv) (jaH (jhm b m)) (.inl (some (jcv (jI o)), jaH (jhm b m))) := by
  refine ey_run0 _ mt_279 (jsl_s rfl) ?_
  unfold jd_279 at e
  refine ey_aload_n (cd_279 rfl) rfl ?_
  refine ey_getf_r (cd_279 rfl) mt_279 rfl rfl rfl (jhm_gr (q := 121) hb rfl) ?_
  refine ey_sipush (cd_279 rfl) (by decide) ?_
  refine ey_aload_n (cd_279 rfl) rfl ?_
  refine ey_getf_r (cd_279 rfl) mt_279 rfl rfl rfl (jhm_gr (q := 103) hb rfl) ?_
  refine ey_iload_n (cd_279 rfl) rfl ?_
  obtain ⟨v1, e2, e⟩ := jbind e
  refine ey_iald (cd_279 rfl) (jhm_ai hb h6 (by decide) rfl e2) ?_
  refine ey_imul (cd_279 rfl) ?_
  refine ey_iload_n (cd_279 rfl) rfl ?_
  refine ey_cs (s0 := [jI p1, jI (864 * v1), jR (some 121)]) (s1 := [jI (864 * v1), jR (some 121)]) (st' := [jI (jd_207 p1), jI (864 * v1), jR (some 121)]) (cd_279 rfl) mt_279 mt_207 rfl (by decide) rfl rfl (jsml_s rfl) rfl (ok_207 ) ?_
  refine ey_iadd (cd_279 rfl) ?_
  refine ey_iload (cd_279 rfl) rfl ?_
  refine ey_aload_n (cd_279 rfl) rfl ?_
  refine ey_getf_i (z := (m 76 33)) (cd_279 rfl) mt_279 rfl rfl rfl (jhm_gi hb 33) ?_
  refine ey_iload_n (cd_279 rfl) rfl ?_
  refine ey_cs (s0 := [jI p1, jI (m 76 33), jI p3, jI ((864 * v1) + (jd_207 p1)), jR (some 121)]) (s1 := [jI p3, jI ((864 * v1) + (jd_207 p1)), jR (some 121)]) (st' := [jI (jd_206 (m 76 33) p1), jI p3, jI ((864 * v1) + (jd_207 p1)), jR (some 121)]) (cd_279 rfl) mt_279 mt_206 rfl (by decide) rfl rfl (jsml_s rfl) rfl (ok_206 ) ?_
  refine ey_imul (cd_279 rfl) ?_
  refine ey_iadd (cd_279 rfl) ?_
  refine ey_iload_n (cd_279 rfl) rfl ?_
  refine ey_iadd (cd_279 rfl) ?_
  obtain ⟨v3, e4, e⟩ := jbind e
  refine ey_iald (cd_279 rfl) (jhm_ai hb h6 (by decide) rfl e4) ?_
  cases e
  exact ey_reti (cd_279 rfl) mt_279 rfl
theorem cd_280 {pc : Nat} {i : Instr × Nat} (h : mm_lk mm_c280 pc = some i) : mm_cd 280 pc = some i := h
theorem mt_280 : mm_MT 280 = (12, 6, some .int, 4, 0, []) := rfl
set_option maxRecDepth 100000 in
theorem ok_280 {L : Nat} {xs : Nat → Int32} {b : jH} (hb : 152 ≤ b.1) (h6 : b.1 ≤ 1000000) {p0 : Int} {p1 : Int} {p2 : Int} {p3 : Int} {m : jM} {o : Int} (e : jd_280 p0 p1 p2 p3 m = some o) : mm_Runs (mm_xt L xs) 3 280 ([jR (some 76), jI p0, jI p1, jI p2, jI p3].map jcv) (jaH (jhm b m)) (.inl (some (jcv (jI o)), jaH (jhm b m))) := by
  refine ey_run0 _ mt_280 (jsl_s rfl) ?_
  unfold jd_280 at e
  refine ey_iload_n (cd_280 rfl) rfl ?_
  refine ey_cs (s0 := [jI p2]) (s1 := []) (st' := [jI (jd_243 p2)]) (cd_280 rfl) mt_280 mt_243 rfl (by decide) rfl rfl (jsml_s rfl) rfl (mm_Runs.up (d := 1) (by decide) (ok_243 )) ?_
  refine ey_istore (cd_280 rfl) mt_280 rfl ?_
  refine ey_aload_n (cd_280 rfl) rfl ?_
  refine ey_iload_n (cd_280 rfl) rfl ?_
  refine ey_iload_n (cd_280 rfl) rfl ?_
  refine ey_iload (cd_280 rfl) rfl ?_
  refine ey_aload_n (cd_280 rfl) rfl ?_
  refine ey_iload_n (cd_280 rfl) rfl ?_
  obtain ⟨v1, e2, e⟩ := jbind e
  refine ey_cv (s0 := [jI p1, jR (some 76), jI (jd_243 p2), jI p2, jI p0, jR (some 76)]) (s1 := [jI (jd_243 p2), jI p2, jI p0, jR (some 76)]) (st' := [jI v1, jI (jd_243 p2), jI p2, jI p0, jR (some 76)]) (cd_280 rfl) mt_280 mt_245 rfl rfl rfl (jhm_is hb) rfl (jsml_s rfl) rfl (mm_Runs.up (d := 1) (by decide) (ok_245 hb h6 e2)) ?_
  refine ey_imul (cd_280 rfl) ?_
  refine ey_iload (cd_280 rfl) (jup_pi (lv := (jlf (jla 0 [jR (some 76), jI p0, jI p1, jI p2, jI p3]))) (j := 4) (v := jI (jd_243 p2)) (z := p3) rfl) ?_
  refine ey_iload (cd_280 rfl) rfl ?_
  obtain ⟨u3, e4, e⟩ := jbind e
  refine ey_irem (cd_280 rfl) (jnz_s e4) ?_
  refine ey_iadd (cd_280 rfl) ?_
  refine ey_iload (cd_280 rfl) rfl ?_
  refine ey_aload_n (cd_280 rfl) rfl ?_
  refine ey_iload_n (cd_280 rfl) rfl ?_
  obtain ⟨v5, e6, e⟩ := jbind e
  refine ey_cv (s0 := [jI p1, jR (some 76), jI (jd_243 p2), jI (((jd_243 p2) * v1) + (jrem p3 (jd_243 p2))), jI p2, jI p0, jR (some 76)]) (s1 := [jI (jd_243 p2), jI (((jd_243 p2) * v1) + (jrem p3 (jd_243 p2))), jI p2, jI p0, jR (some 76)]) (st' := [jI v5, jI (jd_243 p2), jI (((jd_243 p2) * v1) + (jrem p3 (jd_243 p2))), jI p2, jI p0, jR (some 76)]) (cd_280 rfl) mt_280 mt_246 rfl rfl rfl (jhm_is hb) rfl (jsml_s rfl) rfl (mm_Runs.up (d := 1) (by decide) (ok_246 hb h6 e6)) ?_
  refine ey_imul (cd_280 rfl) ?_
  refine ey_iload (cd_280 rfl) (jup_pi (lv := (jlf (jla 0 [jR (some 76), jI p0, jI p1, jI p2, jI p3]))) (j := 4) (v := jI (jd_243 p2)) (z := p3) rfl) ?_
  refine ey_iload (cd_280 rfl) rfl ?_
  obtain ⟨u7, e8, e⟩ := jbind e
  refine ey_idiv (cd_280 rfl) (jnz_s e8) ?_
  refine ey_iadd (cd_280 rfl) ?_
  obtain ⟨v9, e10, e⟩ := jbind e
  refine ey_cv (s0 := [jI (((jd_243 p2) * v5) + (jdiv p3 (jd_243 p2))), jI (((jd_243 p2) * v1) + (jrem p3 (jd_243 p2))), jI p2, jI p0, jR (some 76)]) (s1 := []) (st' := [jI v9]) (cd_280 rfl) mt_280 mt_279 rfl rfl rfl (jhm_is hb) rfl (jsml_s rfl) rfl (ok_279 hb h6 e10) ?_
  cases e
  exact ey_reti (cd_280 rfl) mt_280 rfl
theorem cd_281 {pc : Nat} {i : Instr × Nat} (h : mm_lk mm_c281 pc = some i) : mm_cd 281 pc = some i := h
theorem mt_281 : mm_MT 281 = (12, 10, some .int, 4, 0, []) := rfl
set_option maxRecDepth 100000 in
theorem jk_281_s16 {L : Nat} {xs : Nat → Int32} {b : jH} (hb : 152 ≤ b.1) (h6 : b.1 ≤ 1000000) {x1 : Int} {x2 : Int} {x3 : Int} {x4 : Int} {x5 : Int} {x7 : Int} {m : jM} {o : ((Int × jM) ⊕ jM)} {r : mm_R} (e : jd_281_s16 x1 x2 x3 x4 x5 x7 m = some o) (K : jsm (fun s => (∀ lv : jL, lv 0 = some (jR (some 76)) → lv 1 = some (jI x1) → lv 2 = some (jI x2) → lv 3 = some (jI x3) → lv 4 = some (jI x4) → lv 5 = some (jI x5) → lv 7 = some (jI s.1) → ey (mm_xt L xs) 3 281 16 lv [] (jhm b s.2) r)) (fun x => (∀ lv : jL, lv 0 = some (jR (some 76)) → lv 4 = some (jI x4) → ey (mm_xt L xs) 3 281 78 lv [] (jhm b x) r)) o) : ∀ lv : jL, lv 0 = some (jR (some 76)) → lv 1 = some (jI x1) → lv 2 = some (jI x2) → lv 3 = some (jI x3) → lv 4 = some (jI x4) → lv 5 = some (jI x5) → lv 7 = some (jI x7) → ey (mm_xt L xs) 3 281 16 lv [] (jhm b m) r := by
  intro lv f0 f1 f2 f3 f4 f5 f7
  unfold jd_281_s16 at e
  refine ey_iload (cd_281 rfl) f7 ?_
  refine ey_bipush (cd_281 rfl) (by decide) ?_
  by_cases q1 : 16 ≤ (jw x7)
  · rw [if_pos q1] at e
    refine ey_cge (cd_281 rfl) rfl rfl (show jw 16 = 16 from by decide) q1 ?_
    cases e
    exact K lv f0 f4
  · rw [if_neg q1] at e
    refine ey_nge (cd_281 rfl) rfl rfl (show jw 16 = 16 from by decide) q1 ?_
    refine ey_iload_n (cd_281 rfl) f3 ?_
    refine ey_iload (cd_281 rfl) f7 ?_
    refine ey_iconst (cd_281 rfl) ?_
    refine ey_irem (cd_281 rfl) (by decide) ?_
    refine ey_iload (cd_281 rfl) f7 ?_
    refine ey_iconst (cd_281 rfl) ?_
    refine ey_idiv (cd_281 rfl) (by decide) ?_
    refine ey_cs (s0 := [jI (jdiv x7 4), jI (jrem x7 4), jI x3]) (s1 := []) (st' := [jI (jd_253 x3 (jrem x7 4) (jdiv x7 4))]) (cd_281 rfl) mt_281 mt_253 rfl (by decide) rfl rfl (jsml_s rfl) rfl (mm_Runs.up (d := 2) (by decide) (ok_253 )) ?_
    obtain ⟨z2, e3, e⟩ := jbind e
    refine ey_rs (s0 := [jI (jd_253 x3 (jrem x7 4) (jdiv x7 4))]) (s1 := [jI z2]) (by rw [show (jd_253 x3 (jrem x7 4) (jdiv x7 4)) = z2 from Option.some.inj e3]) ?_
    refine ey_istore (cd_281 rfl) mt_281 rfl ?_
    refine ey_iload (cd_281 rfl) rfl ?_
    refine ey_iload (cd_281 rfl) f5 ?_
    refine ey_cs (s0 := [jI x5, jI z2]) (s1 := [jI z2]) (st' := [jI (jd_244 x5), jI z2]) (cd_281 rfl) mt_281 mt_244 rfl (by decide) rfl rfl (jsml_s rfl) rfl (mm_Runs.up (d := 1) (by decide) (ok_244 )) ?_
    refine ey_isub (cd_281 rfl) ?_
    refine ey_istore (cd_281 rfl) mt_281 rfl ?_
    refine ey_aload_n (cd_281 rfl) f0 ?_
    refine ey_getf_r (cd_281 rfl) mt_281 rfl rfl rfl (jhm_gr (q := 116) hb rfl) ?_
    refine ey_iload (cd_281 rfl) (jup_o rfl (jup_pi (lv := lv) (j := 7) (v := jI z2) (z := x7) f7)) ?_
    refine ey_aload_n (cd_281 rfl) f0 ?_
    refine ey_iload_n (cd_281 rfl) f1 ?_
    refine ey_iload_n (cd_281 rfl) f2 ?_
    refine ey_iload (cd_281 rfl) f5 ?_
    refine ey_iload (cd_281 rfl) rfl ?_
    obtain ⟨v4, e5, e⟩ := jbind e
    refine ey_cv (s0 := [jI (z2 - (jd_244 x5)), jI x5, jI x2, jI x1, jR (some 76), jI x7, jR (some 116)]) (s1 := [jI x7, jR (some 116)]) (st' := [jI v4, jI x7, jR (some 116)]) (cd_281 rfl) mt_281 mt_280 rfl rfl rfl (jhm_is hb) rfl (jsml_s rfl) rfl (ok_280 hb h6 e5) ?_
    refine ey_aload_n (cd_281 rfl) f0 ?_
    refine ey_getf_r (cd_281 rfl) mt_281 rfl rfl rfl (jhm_gr (q := 114) hb rfl) ?_
    refine ey_iload (cd_281 rfl) (jup_pi (lv := (jup lv 8 (jI z2))) (j := 8) (v := jI (z2 - (jd_244 x5))) (z := z2) rfl) ?_
    obtain ⟨v6, e7, e⟩ := jbind e
    refine ey_iald (cd_281 rfl) (jhm_ai hb h6 (by decide) rfl e7) ?_
    refine ey_isub (cd_281 rfl) ?_
    obtain ⟨m8, e9, e⟩ := jbind e
    refine ey_iast (cd_281 rfl) (jhm_ta hb (by decide) rfl e9) ?_
    refine ey_iinc (cd_281 rfl) mt_281 rfl (jup_o rfl (jup_pi (lv := lv) (j := 7) (v := jI z2) (z := x7) f7)) ?_
    refine ey_goto (cd_281 rfl) rfl ?_
    cases e
    exact K (jup (jup (jup lv 8 (jI z2)) 9 (jI (z2 - (jd_244 x5)))) 7 (jI (x7 + 1))) f0 f1 f2 f3 f4 f5 rfl
theorem jk_281_l16 {L : Nat} {xs : Nat → Int32} {b : jH} (hb : 152 ≤ b.1) (h6 : b.1 ≤ 1000000) {x1 : Int} {x2 : Int} {x3 : Int} {x4 : Int} {x5 : Int} {x7 : Int} {m : jM} {x : jM} {r : mm_R} (e : jd_281_l16 x1 x2 x3 x4 x5 x7 m = some x) (K : (∀ lv : jL, lv 0 = some (jR (some 76)) → lv 4 = some (jI x4) → ey (mm_xt L xs) 3 281 78 lv [] (jhm b x) r)) : ∀ lv : jL, lv 0 = some (jR (some 76)) → lv 1 = some (jI x1) → lv 2 = some (jI x2) → lv 3 = some (jI x3) → lv 4 = some (jI x4) → lv 5 = some (jI x5) → lv 7 = some (jI x7) → ey (mm_xt L xs) 3 281 16 lv [] (jhm b m) r := by
  unfold jd_281_l16 at e
  exact jlp_ok2 (P := fun s => ∀ lv : jL, lv 0 = some (jR (some 76)) → lv 1 = some (jI x1) → lv 2 = some (jI x2) → lv 3 = some (jI x3) → lv 4 = some (jI x4) → lv 5 = some (jI x5) → lv 7 = some (jI s.1) → ey (mm_xt L xs) 3 281 16 lv [] (jhm b s.2) r) (Q := fun x => (∀ lv : jL, lv 0 = some (jR (some 76)) → lv 4 = some (jI x4) → ey (mm_xt L xs) 3 281 78 lv [] (jhm b x) r)) (fun s q hq hk => jk_281_s16 hb h6 hq hk) jfu _ x e K
set_option maxRecDepth 100000 in
theorem jk_281_b149 {L : Nat} {xs : Nat → Int32} {b : jH} (hb : 152 ≤ b.1) (h6 : b.1 ≤ 1000000) {x4 : Int} {x7 : Int} {x8 : Int} {y0 : Int} {m : jM} {o : ((Int × Int × jM) ⊕ (Int × jM))} {r : mm_R} (e : jd_281_b149 x4 x7 x8 y0 m = some o) (K : jsm (fun s => (∀ lv : jL, lv 0 = some (jR (some 76)) → lv 4 = some (jI x4) → lv 7 = some (jI s.1) → lv 8 = some (jI s.2.1) → ey (mm_xt L xs) 3 281 88 lv [] (jhm b s.2.2) r)) (fun x => (∀ lv : jL, lv 7 = some (jI x.1) → ey (mm_xt L xs) 3 281 197 lv [] (jhm b x.2) r)) o) : ∀ lv : jL, lv 0 = some (jR (some 76)) → lv 4 = some (jI x4) → lv 7 = some (jI x7) → lv 8 = some (jI x8) → ey (mm_xt L xs) 3 281 149 lv [jI y0] (jhm b m) r := by
  intro lv f0 f4 f7 f8
  unfold jd_281_b149 at e
  refine ey_istore (cd_281 rfl) mt_281 rfl ?_
  refine ey_aload_n (cd_281 rfl) f0 ?_
  refine ey_getf_r (cd_281 rfl) mt_281 rfl rfl rfl (jhm_gr (q := 116) hb rfl) ?_
  refine ey_iload (cd_281 rfl) (jup_pi (lv := lv) (j := 8) (v := jI y0) (z := x8) f8) ?_
  refine ey_aload_n (cd_281 rfl) f0 ?_
  refine ey_getf_r (cd_281 rfl) mt_281 rfl rfl rfl (jhm_gr (q := 116) hb rfl) ?_
  refine ey_iload (cd_281 rfl) (jup_pi (lv := lv) (j := 8) (v := jI y0) (z := x8) f8) ?_
  obtain ⟨v22, e23, e⟩ := jbind e
  refine ey_iald (cd_281 rfl) (jhm_ai hb h6 (by decide) rfl e23) ?_
  have K30 : ∀ lv : jL, lv 0 = some (jR (some 76)) → lv 4 = some (jI x4) → lv 7 = some (jI x7) → lv 8 = some (jI x8) → lv 9 = some (jI y0) → ey (mm_xt L xs) 3 281 175 lv [jI (if 0 ≤ (jw v22) then y0 else (-y0)), jI x8, jR (some 116)] (jhm b m) r := by
    intro lv g0 g4 g7 g8 g9
    obtain ⟨m24, e25, e⟩ := jbind e
    refine ey_iast (cd_281 rfl) (jhm_ta hb (by decide) rfl e25) ?_
    refine ey_iload (cd_281 rfl) g7 ?_
    refine ey_iload (cd_281 rfl) g9 ?_
    have K28 : ∀ lv : jL, lv 0 = some (jR (some 76)) → lv 4 = some (jI x4) → lv 8 = some (jI x8) → ey (mm_xt L xs) 3 281 188 lv [jI (if (jw y0) = 0 then 0 else 1), jI x7] (jhm b m24) r := by
      intro lv g0 g4 g8
      refine ey_iadd (cd_281 rfl) ?_
      obtain ⟨z26, e27, e⟩ := jbind e
      refine ey_rs (s0 := [jI (x7 + (if (jw y0) = 0 then 0 else 1))]) (s1 := [jI z26]) (by rw [show (x7 + (if (jw y0) = 0 then 0 else 1)) = z26 from Option.some.inj e27]) ?_
      refine ey_istore (cd_281 rfl) mt_281 rfl ?_
      refine ey_iinc (cd_281 rfl) mt_281 rfl g8 ?_
      refine ey_goto (cd_281 rfl) rfl ?_
      cases e
      exact K (jup (jup lv 7 (jI z26)) 8 (jI (x8 + 1))) g0 g4 (jup_pi (lv := (jup lv 7 (jI z26))) (j := 7) (v := jI (x8 + 1)) (z := z26) rfl) rfl
    by_cases q29 : (jw y0) = 0
    · refine ey_yne (cd_281 rfl) rfl rfl (fun w => w q29) ?_
      refine ey_iconst (cd_281 rfl) ?_
      refine ey_goto (cd_281 rfl) rfl ?_
      exact ey_rs (s0 := [jI 0, jI x7]) (s1 := [jI (if (jw y0) = 0 then 0 else 1), jI x7]) (by rw [show ((if (jw y0) = 0 then 0 else 1) : Int) = 0 from (if_pos q29)]) (K28 lv g0 g4 g8)
    · refine ey_zne (cd_281 rfl) rfl rfl q29 ?_
      refine ey_iconst (cd_281 rfl) ?_
      exact ey_rs (s0 := [jI 1, jI x7]) (s1 := [jI (if (jw y0) = 0 then 0 else 1), jI x7]) (by rw [show ((if (jw y0) = 0 then 0 else 1) : Int) = 1 from (if_neg q29)]) (K28 lv g0 g4 g8)
  by_cases q31 : 0 ≤ (jw v22)
  · refine ey_zge (cd_281 rfl) rfl rfl q31 ?_
    refine ey_iload (cd_281 rfl) rfl ?_
    exact ey_rs (s0 := [jI y0, jI x8, jR (some 116)]) (s1 := [jI (if 0 ≤ (jw v22) then y0 else (-y0)), jI x8, jR (some 116)]) (by rw [show ((if 0 ≤ (jw v22) then y0 else (-y0)) : Int) = y0 from (if_pos q31)]) (K30 (jup lv 9 (jI y0)) f0 f4 f7 (jup_pi (lv := lv) (j := 8) (v := jI y0) (z := x8) f8) rfl)
  · refine ey_yge (cd_281 rfl) rfl rfl q31 ?_
    refine ey_iload (cd_281 rfl) rfl ?_
    refine ey_ineg (cd_281 rfl) ?_
    refine ey_goto (cd_281 rfl) rfl ?_
    exact ey_rs (s0 := [jI (-y0), jI x8, jR (some 116)]) (s1 := [jI (if 0 ≤ (jw v22) then y0 else (-y0)), jI x8, jR (some 116)]) (by rw [show ((if 0 ≤ (jw v22) then y0 else (-y0)) : Int) = (-y0) from (if_neg q31)]) (K30 (jup lv 9 (jI y0)) f0 f4 f7 (jup_pi (lv := lv) (j := 8) (v := jI y0) (z := x8) f8) rfl)
set_option maxRecDepth 100000 in
theorem jk_281_b123 {L : Nat} {xs : Nat → Int32} {b : jH} (hb : 152 ≤ b.1) (h6 : b.1 ≤ 1000000) {x4 : Int} {x7 : Int} {x8 : Int} {y0 : Int} {m : jM} {o : ((Int × Int × jM) ⊕ (Int × jM))} {r : mm_R} (e : jd_281_b123 x4 x7 x8 y0 m = some o) (K : jsm (fun s => (∀ lv : jL, lv 0 = some (jR (some 76)) → lv 4 = some (jI x4) → lv 7 = some (jI s.1) → lv 8 = some (jI s.2.1) → ey (mm_xt L xs) 3 281 88 lv [] (jhm b s.2.2) r)) (fun x => (∀ lv : jL, lv 7 = some (jI x.1) → ey (mm_xt L xs) 3 281 197 lv [] (jhm b x.2) r)) o) : ∀ lv : jL, lv 0 = some (jR (some 76)) → lv 4 = some (jI x4) → lv 7 = some (jI x7) → lv 8 = some (jI x8) → ey (mm_xt L xs) 3 281 123 lv [jI y0] (jhm b m) r := by
  intro lv f0 f4 f7 f8
  unfold jd_281_b123 at e
  refine ey_iload (cd_281 rfl) f4 ?_
  refine ey_iconst (cd_281 rfl) ?_
  refine ey_idiv (cd_281 rfl) (by decide) ?_
  refine ey_iadd (cd_281 rfl) ?_
  refine ey_iload (cd_281 rfl) f4 ?_
  obtain ⟨u20, e21, e⟩ := jbind e
  refine ey_idiv (cd_281 rfl) (jnz_s e21) ?_
  refine ey_istore (cd_281 rfl) mt_281 rfl ?_
  refine ey_iload (cd_281 rfl) rfl ?_
  refine ey_sipush (cd_281 rfl) (by decide) ?_
  have K32 : ∀ lv : jL, lv 0 = some (jR (some 76)) → lv 4 = some (jI x4) → lv 7 = some (jI x7) → lv 8 = some (jI x8) → ey (mm_xt L xs) 3 281 149 lv [jI (if (jw (jdiv (y0 + (jdiv x4 2)) x4)) ≤ 4095 then (jdiv (y0 + (jdiv x4 2)) x4) else 4095)] (jhm b m) r := by
    intro lv g0 g4 g7 g8
    exact jk_281_b149 hb h6 e K lv g0 g4 g7 g8
  by_cases q33 : (jw (jdiv (y0 + (jdiv x4 2)) x4)) ≤ 4095
  · refine ey_cle (cd_281 rfl) rfl rfl (show jw 4095 = 4095 from by decide) q33 ?_
    refine ey_iload (cd_281 rfl) rfl ?_
    exact ey_rs (s0 := [jI (jdiv (y0 + (jdiv x4 2)) x4)]) (s1 := [jI (if (jw (jdiv (y0 + (jdiv x4 2)) x4)) ≤ 4095 then (jdiv (y0 + (jdiv x4 2)) x4) else 4095)]) (by rw [show ((if (jw (jdiv (y0 + (jdiv x4 2)) x4)) ≤ 4095 then (jdiv (y0 + (jdiv x4 2)) x4) else 4095) : Int) = (jdiv (y0 + (jdiv x4 2)) x4) from (if_pos q33)]) (K32 (jup lv 9 (jI (jdiv (y0 + (jdiv x4 2)) x4))) f0 f4 f7 (jup_pi (lv := lv) (j := 8) (v := jI (jdiv (y0 + (jdiv x4 2)) x4)) (z := x8) f8))
  · refine ey_nle (cd_281 rfl) rfl rfl (show jw 4095 = 4095 from by decide) q33 ?_
    refine ey_sipush (cd_281 rfl) (by decide) ?_
    refine ey_goto (cd_281 rfl) rfl ?_
    exact ey_rs (s0 := [jI 4095]) (s1 := [jI (if (jw (jdiv (y0 + (jdiv x4 2)) x4)) ≤ 4095 then (jdiv (y0 + (jdiv x4 2)) x4) else 4095)]) (by rw [show ((if (jw (jdiv (y0 + (jdiv x4 2)) x4)) ≤ 4095 then (jdiv (y0 + (jdiv x4 2)) x4) else 4095) : Int) = 4095 from (if_neg q33)]) (K32 (jup lv 9 (jI (jdiv (y0 + (jdiv x4 2)) x4))) f0 f4 f7 (jup_pi (lv := lv) (j := 8) (v := jI (jdiv (y0 + (jdiv x4 2)) x4)) (z := x8) f8))
set_option maxRecDepth 100000 in
theorem jk_281_s88 {L : Nat} {xs : Nat → Int32} {b : jH} (hb : 152 ≤ b.1) (h6 : b.1 ≤ 1000000) {x4 : Int} {x7 : Int} {x8 : Int} {m : jM} {o : ((Int × Int × jM) ⊕ (Int × jM))} {r : mm_R} (e : jd_281_s88 x4 x7 x8 m = some o) (K : jsm (fun s => (∀ lv : jL, lv 0 = some (jR (some 76)) → lv 4 = some (jI x4) → lv 7 = some (jI s.1) → lv 8 = some (jI s.2.1) → ey (mm_xt L xs) 3 281 88 lv [] (jhm b s.2.2) r)) (fun x => (∀ lv : jL, lv 7 = some (jI x.1) → ey (mm_xt L xs) 3 281 197 lv [] (jhm b x.2) r)) o) : ∀ lv : jL, lv 0 = some (jR (some 76)) → lv 4 = some (jI x4) → lv 7 = some (jI x7) → lv 8 = some (jI x8) → ey (mm_xt L xs) 3 281 88 lv [] (jhm b m) r := by
  intro lv f0 f4 f7 f8
  unfold jd_281_s88 at e
  refine ey_iload (cd_281 rfl) f8 ?_
  refine ey_bipush (cd_281 rfl) (by decide) ?_
  by_cases q14 : 16 ≤ (jw x8)
  · rw [if_pos q14] at e
    refine ey_cge (cd_281 rfl) rfl rfl (show jw 16 = 16 from by decide) q14 ?_
    cases e
    exact K lv f7
  · rw [if_neg q14] at e
    refine ey_nge (cd_281 rfl) rfl rfl (show jw 16 = 16 from by decide) q14 ?_
    refine ey_aload_n (cd_281 rfl) f0 ?_
    refine ey_getf_r (cd_281 rfl) mt_281 rfl rfl rfl (jhm_gr (q := 116) hb rfl) ?_
    refine ey_iload (cd_281 rfl) f8 ?_
    obtain ⟨v15, e16, e⟩ := jbind e
    refine ey_iald (cd_281 rfl) (jhm_ai hb h6 (by decide) rfl e16) ?_
    by_cases q17 : 0 ≤ (jw v15)
    · rw [if_pos q17] at e
      refine ey_zge (cd_281 rfl) rfl rfl q17 ?_
      refine ey_aload_n (cd_281 rfl) f0 ?_
      refine ey_getf_r (cd_281 rfl) mt_281 rfl rfl rfl (jhm_gr (q := 116) hb rfl) ?_
      refine ey_iload (cd_281 rfl) f8 ?_
      obtain ⟨v18, e19, e⟩ := jbind e
      refine ey_iald (cd_281 rfl) (jhm_ai hb h6 (by decide) rfl e19) ?_
      exact jk_281_b123 hb h6 e K lv f0 f4 f7 f8
    · rw [if_neg q17] at e
      refine ey_yge (cd_281 rfl) rfl rfl q17 ?_
      refine ey_aload_n (cd_281 rfl) f0 ?_
      refine ey_getf_r (cd_281 rfl) mt_281 rfl rfl rfl (jhm_gr (q := 116) hb rfl) ?_
      refine ey_iload (cd_281 rfl) f8 ?_
      obtain ⟨v34, e35, e⟩ := jbind e
      refine ey_iald (cd_281 rfl) (jhm_ai hb h6 (by decide) rfl e35) ?_
      refine ey_ineg (cd_281 rfl) ?_
      refine ey_goto (cd_281 rfl) rfl ?_
      exact jk_281_b123 hb h6 e K lv f0 f4 f7 f8
theorem jk_281_l88 {L : Nat} {xs : Nat → Int32} {b : jH} (hb : 152 ≤ b.1) (h6 : b.1 ≤ 1000000) {x4 : Int} {x7 : Int} {x8 : Int} {m : jM} {x : (Int × jM)} {r : mm_R} (e : jd_281_l88 x4 x7 x8 m = some x) (K : (∀ lv : jL, lv 7 = some (jI x.1) → ey (mm_xt L xs) 3 281 197 lv [] (jhm b x.2) r)) : ∀ lv : jL, lv 0 = some (jR (some 76)) → lv 4 = some (jI x4) → lv 7 = some (jI x7) → lv 8 = some (jI x8) → ey (mm_xt L xs) 3 281 88 lv [] (jhm b m) r := by
  unfold jd_281_l88 at e
  exact jlp_ok2 (P := fun s => ∀ lv : jL, lv 0 = some (jR (some 76)) → lv 4 = some (jI x4) → lv 7 = some (jI s.1) → lv 8 = some (jI s.2.1) → ey (mm_xt L xs) 3 281 88 lv [] (jhm b s.2.2) r) (Q := fun x => (∀ lv : jL, lv 7 = some (jI x.1) → ey (mm_xt L xs) 3 281 197 lv [] (jhm b x.2) r)) (fun s q hq hk => jk_281_s88 hb h6 hq hk) jfu _ x e K
set_option maxRecDepth 100000 in
theorem ok_281 {L : Nat} {xs : Nat → Int32} {b : jH} (hb : 152 ≤ b.1) (h6 : b.1 ≤ 1000000) {p0 : Int} {p1 : Int} {p2 : Int} {p3 : Int} {m : jM} {o : (Int × jM)} (e : jd_281 p0 p1 p2 p3 m = some o) : mm_Runs (mm_xt L xs) 4 281 ([jR (some 76), jI p0, jI p1, jI p2, jI p3].map jcv) (jaH (jhm b m)) (.inl (some (jcv (jI o.1)), jaH (jhm b o.2))) := by
  refine ey_run0 _ mt_281 (jsl_s rfl) ?_
  unfold jd_281 at e
  refine ey_iload_n (cd_281 rfl) rfl ?_
  refine ey_cs (s0 := [jI p2]) (s1 := []) (st' := [jI (jd_252 p2)]) (cd_281 rfl) mt_281 mt_252 rfl (by decide) rfl rfl (jsml_s rfl) rfl (mm_Runs.up (d := 1) (by decide) (ok_252 )) ?_
  refine ey_istore (cd_281 rfl) mt_281 rfl ?_
  refine ey_iload (cd_281 rfl) rfl ?_
  refine ey_cs (s0 := [jI (jd_252 p2)]) (s1 := []) (st' := [jI (jd_243 (jd_252 p2))]) (cd_281 rfl) mt_281 mt_243 rfl (by decide) rfl rfl (jsml_s rfl) rfl (mm_Runs.up (d := 1) (by decide) (ok_243 )) ?_
  refine ey_istore (cd_281 rfl) mt_281 rfl ?_
  refine ey_iconst (cd_281 rfl) ?_
  refine ey_istore (cd_281 rfl) mt_281 rfl ?_
  obtain ⟨x10, e11, e⟩ := jbind e
  refine jk_281_l16 hb h6 e11 ?_ (jup (jup (jup (jlf (jla 0 [jR (some 76), jI p0, jI p1, jI p2, jI p3])) 5 (jI (jd_252 p2))) 6 (jI (jd_243 (jd_252 p2)))) 7 (jI 0)) rfl rfl rfl rfl (jup_o rfl (jup_o rfl (jup_pi (lv := (jlf (jla 0 [jR (some 76), jI p0, jI p1, jI p2, jI p3]))) (j := 4) (v := jI (jd_252 p2)) (z := p3) rfl))) (jup_o rfl (jup_pi (lv := (jup (jlf (jla 0 [jR (some 76), jI p0, jI p1, jI p2, jI p3])) 5 (jI (jd_252 p2)))) (j := 5) (v := jI (jd_243 (jd_252 p2))) (z := (jd_252 p2)) rfl)) rfl
  intro lv g0 g4
  refine ey_aload_n (cd_281 rfl) g0 ?_
  obtain ⟨m12, e13, e⟩ := jbind e
  refine ey_cv (s0 := [jR (some 76)]) (s1 := []) (st' := []) (cd_281 rfl) mt_281 mt_256 rfl rfl rfl (jhm_is hb) rfl (jsml_s rfl) rfl (mm_Runs.up (d := 2) (by decide) (ok_256 hb h6 e13)) ?_
  refine ey_iconst (cd_281 rfl) ?_
  refine ey_istore (cd_281 rfl) mt_281 rfl ?_
  refine ey_iconst (cd_281 rfl) ?_
  refine ey_istore (cd_281 rfl) mt_281 rfl ?_
  obtain ⟨x36, e37, e⟩ := jbind e
  refine jk_281_l88 hb h6 e37 ?_ (jup (jup lv 7 (jI 0)) 8 (jI 0)) g0 g4 (jup_pi (lv := (jup lv 7 (jI 0))) (j := 7) (v := jI 0) (z := 0) rfl) rfl
  intro lv g7
  refine ey_iload (cd_281 rfl) g7 ?_
  cases e
  exact ey_reti (cd_281 rfl) mt_281 rfl
theorem cd_282 {pc : Nat} {i : Instr × Nat} (h : mm_lk mm_c282 pc = some i) : mm_cd 282 pc = some i := h
theorem mt_282 : mm_MT 282 = (12, 9, none, 4, 0, []) := rfl
set_option maxRecDepth 100000 in
theorem jk_282_b82 {L : Nat} {xs : Nat → Int32} {b : jH} (hb : 152 ≤ b.1) (h6 : b.1 ≤ 1000000) {x3 : Int} {x4 : Int} {x6 : Int} {x7 : Int} {m : jM} {o : ((Int × Int × jM) ⊕ jM)} {r : mm_R} (e : jd_282_b82 x3 x4 x6 x7 m = some o) (K : jsm (fun s => (∀ lv : jL, lv 0 = some (jR (some 76)) → lv 3 = some (jI x3) → lv 4 = some (jI x4) → lv 6 = some (jI s.1) → lv 7 = some (jI s.2.1) → ey (mm_xt L xs) 4 282 34 lv [] (jhm b s.2.2) r)) (fun x => (∀ lv : jL, lv 0 = some (jR (some 76)) → lv 3 = some (jI x3) → lv 4 = some (jI x4) → ey (mm_xt L xs) 4 282 88 lv [] (jhm b x) r)) o) : ∀ lv : jL, lv 0 = some (jR (some 76)) → lv 3 = some (jI x3) → lv 4 = some (jI x4) → lv 6 = some (jI x6) → lv 7 = some (jI x7) → ey (mm_xt L xs) 4 282 82 lv [] (jhm b m) r := by
  intro lv f0 f3 f4 f6 f7
  unfold jd_282_b82 at e
  refine ey_iinc (cd_282 rfl) mt_282 rfl f7 ?_
  refine ey_goto (cd_282 rfl) rfl ?_
  cases e
  exact K (jup lv 7 (jI (x7 + 1))) f0 f3 f4 (jup_pi (lv := lv) (j := 6) (v := jI (x7 + 1)) (z := x6) f6) rfl
set_option maxRecDepth 100000 in
theorem jk_282_s34 {L : Nat} {xs : Nat → Int32} {b : jH} (hb : 152 ≤ b.1) (h6 : b.1 ≤ 1000000) {x3 : Int} {x4 : Int} {x6 : Int} {x7 : Int} {m : jM} {o : ((Int × Int × jM) ⊕ jM)} {r : mm_R} (e : jd_282_s34 x3 x4 x6 x7 m = some o) (K : jsm (fun s => (∀ lv : jL, lv 0 = some (jR (some 76)) → lv 3 = some (jI x3) → lv 4 = some (jI x4) → lv 6 = some (jI s.1) → lv 7 = some (jI s.2.1) → ey (mm_xt L xs) 4 282 34 lv [] (jhm b s.2.2) r)) (fun x => (∀ lv : jL, lv 0 = some (jR (some 76)) → lv 3 = some (jI x3) → lv 4 = some (jI x4) → ey (mm_xt L xs) 4 282 88 lv [] (jhm b x) r)) o) : ∀ lv : jL, lv 0 = some (jR (some 76)) → lv 3 = some (jI x3) → lv 4 = some (jI x4) → lv 6 = some (jI x6) → lv 7 = some (jI x7) → ey (mm_xt L xs) 4 282 34 lv [] (jhm b m) r := by
  intro lv f0 f3 f4 f6 f7
  unfold jd_282_s34 at e
  refine ey_iload (cd_282 rfl) f7 ?_
  refine ey_bipush (cd_282 rfl) (by decide) ?_
  by_cases q7 : 16 ≤ (jw x7)
  · rw [if_pos q7] at e
    refine ey_cge (cd_282 rfl) rfl rfl (show jw 16 = 16 from by decide) q7 ?_
    cases e
    exact K lv f0 f3 f4
  · rw [if_neg q7] at e
    refine ey_nge (cd_282 rfl) rfl rfl (show jw 16 = 16 from by decide) q7 ?_
    refine ey_aload_n (cd_282 rfl) f0 ?_
    refine ey_getf_r (cd_282 rfl) mt_282 rfl rfl rfl (jhm_gr (q := 116) hb rfl) ?_
    refine ey_iload (cd_282 rfl) f7 ?_
    refine ey_cs (s0 := [jI x7, jR (some 116)]) (s1 := [jR (some 116)]) (st' := [jI (jd_254 x7), jR (some 116)]) (cd_282 rfl) mt_282 mt_254 rfl (by decide) rfl rfl (jsml_s rfl) rfl (mm_Runs.up (d := 1) (by decide) (ok_254 )) ?_
    obtain ⟨v8, e9, e⟩ := jbind e
    refine ey_iald (cd_282 rfl) (jhm_ai hb h6 (by decide) rfl e9) ?_
    refine ey_istore (cd_282 rfl) mt_282 rfl ?_
    refine ey_iload (cd_282 rfl) rfl ?_
    by_cases q10 : (jw v8) = 0
    · rw [if_pos q10] at e
      refine ey_yne (cd_282 rfl) rfl rfl (fun w => w q10) ?_
      refine ey_iinc (cd_282 rfl) mt_282 rfl f6 ?_
      refine ey_goto (cd_282 rfl) rfl ?_
      exact jk_282_b82 hb h6 e K (jup (jup lv 8 (jI v8)) 6 (jI (x6 + 1))) f0 f3 f4 rfl (jup_o rfl (jup_pi (lv := lv) (j := 7) (v := jI v8) (z := x7) f7))
    · rw [if_neg q10] at e
      refine ey_zne (cd_282 rfl) rfl rfl q10 ?_
      refine ey_aload_n (cd_282 rfl) f0 ?_
      refine ey_iload (cd_282 rfl) f6 ?_
      obtain ⟨m11, e12, e⟩ := jbind e
      refine ey_cv (s0 := [jI x6, jR (some 76)]) (s1 := []) (st' := []) (cd_282 rfl) mt_282 mt_234 rfl rfl rfl (jhm_is hb) rfl (jsml_s rfl) rfl (mm_Runs.up (d := 2) (by decide) (ok_234 hb h6 e12)) ?_
      refine ey_aload_n (cd_282 rfl) f0 ?_
      refine ey_iload (cd_282 rfl) rfl ?_
      refine ey_cs (s0 := [jI v8, jR (some 76)]) (s1 := [jR (some 76)]) (st' := [jI (jd_236 v8), jR (some 76)]) (cd_282 rfl) mt_282 mt_236 rfl (by decide) rfl rfl (jsml_s rfl) rfl (mm_Runs.up (d := 1) (by decide) (ok_236 )) ?_
      obtain ⟨m13, e14, e⟩ := jbind e
      refine ey_cv (s0 := [jI (jd_236 v8), jR (some 76)]) (s1 := []) (st' := []) (cd_282 rfl) mt_282 mt_234 rfl rfl rfl (jhm_is hb) rfl (jsml_s rfl) rfl (mm_Runs.up (d := 2) (by decide) (ok_234 hb h6 e14)) ?_
      refine ey_iconst (cd_282 rfl) ?_
      refine ey_istore (cd_282 rfl) mt_282 rfl ?_
      exact jk_282_b82 hb h6 e K (jup (jup lv 8 (jI v8)) 6 (jI 0)) f0 f3 f4 rfl (jup_o rfl (jup_pi (lv := lv) (j := 7) (v := jI v8) (z := x7) f7))
theorem jk_282_l34 {L : Nat} {xs : Nat → Int32} {b : jH} (hb : 152 ≤ b.1) (h6 : b.1 ≤ 1000000) {x3 : Int} {x4 : Int} {x6 : Int} {x7 : Int} {m : jM} {x : jM} {r : mm_R} (e : jd_282_l34 x3 x4 x6 x7 m = some x) (K : (∀ lv : jL, lv 0 = some (jR (some 76)) → lv 3 = some (jI x3) → lv 4 = some (jI x4) → ey (mm_xt L xs) 4 282 88 lv [] (jhm b x) r)) : ∀ lv : jL, lv 0 = some (jR (some 76)) → lv 3 = some (jI x3) → lv 4 = some (jI x4) → lv 6 = some (jI x6) → lv 7 = some (jI x7) → ey (mm_xt L xs) 4 282 34 lv [] (jhm b m) r := by
  unfold jd_282_l34 at e
  exact jlp_ok2 (P := fun s => ∀ lv : jL, lv 0 = some (jR (some 76)) → lv 3 = some (jI x3) → lv 4 = some (jI x4) → lv 6 = some (jI s.1) → lv 7 = some (jI s.2.1) → ey (mm_xt L xs) 4 282 34 lv [] (jhm b s.2.2) r) (Q := fun x => (∀ lv : jL, lv 0 = some (jR (some 76)) → lv 3 = some (jI x3) → lv 4 = some (jI x4) → ey (mm_xt L xs) 4 282 88 lv [] (jhm b x) r)) (fun s q hq hk => jk_282_s34 hb h6 hq hk) jfu _ x e K
set_option maxRecDepth 100000 in
theorem ok_282 {L : Nat} {xs : Nat → Int32} {b : jH} (hb : 152 ≤ b.1) (h6 : b.1 ≤ 1000000) {p0 : Int} {p1 : Int} {p2 : Int} {p3 : Int} {m : jM} {o : jM} (e : jd_282 p0 p1 p2 p3 m = some o) : mm_Runs (mm_xt L xs) 5 282 ([jR (some 76), jI p0, jI p1, jI p2, jI p3].map jcv) (jaH (jhm b m)) (.inl (none, jaH (jhm b o))) := by
  refine ey_run0 _ mt_282 (jsl_s rfl) ?_
  unfold jd_282 at e
  refine ey_aload_n (cd_282 rfl) rfl ?_
  refine ey_iload_n (cd_282 rfl) rfl ?_
  refine ey_iload_n (cd_282 rfl) rfl ?_
  refine ey_iload_n (cd_282 rfl) rfl ?_
  refine ey_iload (cd_282 rfl) rfl ?_
  obtain ⟨q1, e2, e⟩ := jbind e
  refine ey_cv (s0 := [jI p3, jI p2, jI p1, jI p0, jR (some 76)]) (s1 := []) (st' := [jI q1.1]) (cd_282 rfl) mt_282 mt_281 rfl rfl rfl (jhm_is hb) rfl (jsml_s rfl) rfl (ok_281 hb h6 e2) ?_
  refine ey_istore (cd_282 rfl) mt_282 rfl ?_
  refine ey_aload_n (cd_282 rfl) rfl ?_
  refine ey_iload (cd_282 rfl) rfl ?_
  obtain ⟨m3, e4, e⟩ := jbind e
  refine ey_cv (s0 := [jI q1.1, jR (some 76)]) (s1 := []) (st' := []) (cd_282 rfl) mt_282 mt_234 rfl rfl rfl (jhm_is hb) rfl (jsml_s rfl) rfl (mm_Runs.up (d := 2) (by decide) (ok_234 hb h6 e4)) ?_
  refine ey_aload_n (cd_282 rfl) rfl ?_
  refine ey_dup (cd_282 rfl) rfl ?_
  refine ey_getf_i (z := (m3 76 59)) (cd_282 rfl) mt_282 rfl rfl rfl (jhm_gi hb 59) ?_
  refine ey_iload (cd_282 rfl) rfl ?_
  refine ey_iadd (cd_282 rfl) ?_
  obtain ⟨m5, e6, e⟩ := jbind e
  refine ey_putf_i (cd_282 rfl) mt_282 rfl rfl rfl (jhm_pi' (k := 59) hb e6) ?_
  refine ey_iconst (cd_282 rfl) ?_
  refine ey_istore (cd_282 rfl) mt_282 rfl ?_
  refine ey_iconst (cd_282 rfl) ?_
  refine ey_istore (cd_282 rfl) mt_282 rfl ?_
  obtain ⟨x15, e16, e⟩ := jbind e
  refine jk_282_l34 hb h6 e16 ?_ (jup (jup (jup (jlf (jla 0 [jR (some 76), jI p0, jI p1, jI p2, jI p3])) 5 (jI q1.1)) 6 (jI 0)) 7 (jI 0)) rfl rfl (jup_o rfl (jup_o rfl (jup_pi (lv := (jlf (jla 0 [jR (some 76), jI p0, jI p1, jI p2, jI p3]))) (j := 4) (v := jI q1.1) (z := p3) rfl))) (jup_pi (lv := (jup (jup (jlf (jla 0 [jR (some 76), jI p0, jI p1, jI p2, jI p3])) 5 (jI q1.1)) 6 (jI 0))) (j := 6) (v := jI 0) (z := 0) rfl) rfl
  intro lv g0 g3 g4
  refine ey_aload_n (cd_282 rfl) g0 ?_
  refine ey_iload_n (cd_282 rfl) g3 ?_
  refine ey_iload (cd_282 rfl) g4 ?_
  obtain ⟨m17, e18, e⟩ := jbind e
  refine ey_cv (s0 := [jI p3, jI p2, jR (some 76)]) (s1 := []) (st' := []) (cd_282 rfl) mt_282 mt_257 rfl rfl rfl (jhm_is hb) rfl (jsml_s rfl) rfl (mm_Runs.up (d := 3) (by decide) (ok_257 hb h6 e18)) ?_
  cases e
  exact ey_retv (cd_282 rfl) mt_282 rfl
theorem cd_283 {pc : Nat} {i : Instr × Nat} (h : mm_lk mm_c283 pc = some i) : mm_cd 283 pc = some i := h
theorem mt_283 : mm_MT 283 = (12, 17, none, 5, 0, []) := rfl
set_option maxRecDepth 100000 in
theorem jk_283_b149 {L : Nat} {xs : Nat → Int32} {b : jH} (hb : 152 ≤ b.1) (h6 : b.1 ≤ 1000000) {x1 : Int} {x2 : Int} {x3 : Int} {x4 : Int} {x5 : Int} {x6 : Int} {x8 : Int} {x9 : Int} {x10 : Int} {x13 : Int} {y0 : Int} {y1 : Int} {m : jM} {o : ((Int × Int) ⊕ Int)} {r : mm_R} (e : jd_283_b149 x1 x2 x3 x4 x5 x6 x8 x9 x10 x13 y0 y1 m = some o) (K : jsm (fun s => (∀ lv : jL, lv 0 = some (jR (some 76)) → lv 1 = some (jI x1) → lv 2 = some (jI x2) → lv 3 = some (jI x3) → lv 4 = some (jI x4) → lv 5 = some (jI x5) → lv 6 = some (jJ x6) → lv 8 = some (jI x8) → lv 9 = some (jI x9) → lv 10 = some (jI x10) → lv 11 = some (jJ s.1) → lv 13 = some (jI s.2) → ey (mm_xt L xs) 4 283 66 lv [] (jhm b m) r)) (fun x => (∀ lv : jL, lv 0 = some (jR (some 76)) → lv 1 = some (jI x1) → lv 2 = some (jI x2) → lv 3 = some (jI x3) → lv 4 = some (jI x4) → lv 5 = some (jI x5) → lv 6 = some (jJ x6) → lv 8 = some (jI x8) → lv 9 = some (jI x9) → lv 10 = some (jI x10) → lv 11 = some (jJ x) → ey (mm_xt L xs) 4 283 158 lv [] (jhm b m) r)) o) : ∀ lv : jL, lv 0 = some (jR (some 76)) → lv 1 = some (jI x1) → lv 2 = some (jI x2) → lv 3 = some (jI x3) → lv 4 = some (jI x4) → lv 5 = some (jI x5) → lv 6 = some (jJ x6) → lv 8 = some (jI x8) → lv 9 = some (jI x9) → lv 10 = some (jI x10) → lv 13 = some (jI x13) → ey (mm_xt L xs) 4 283 149 lv [jJ y0, jJ y1] (jhm b m) r := by
  intro lv f0 f1 f2 f3 f4 f5 f6 f8 f9 f10 f13
  unfold jd_283_b149 at e
  refine ey_ladd (cd_283 rfl) ?_
  refine ey_lstore (cd_283 rfl) mt_283 rfl ?_
  refine ey_iinc (cd_283 rfl) mt_283 rfl f13 ?_
  refine ey_goto (cd_283 rfl) rfl ?_
  cases e
  exact K (jup (jup2 lv 11 (jJ (y1 + y0))) 13 (jI (x13 + 1))) f0 f1 f2 f3 f4 f5 f6 f8 f9 (jup_o rfl (jup2_pi (lv := lv) (j := 10) (v := jJ (y1 + y0)) (z := x10) f10)) rfl rfl
set_option maxRecDepth 100000 in
theorem jk_283_s66 {L : Nat} {xs : Nat → Int32} {b : jH} (hb : 152 ≤ b.1) (h6 : b.1 ≤ 1000000) {x1 : Int} {x2 : Int} {x3 : Int} {x4 : Int} {x5 : Int} {x6 : Int} {x8 : Int} {x9 : Int} {x10 : Int} {x11 : Int} {x13 : Int} {m : jM} {o : ((Int × Int) ⊕ Int)} {r : mm_R} (e : jd_283_s66 x1 x2 x3 x4 x5 x6 x8 x9 x10 x11 x13 m = some o) (K : jsm (fun s => (∀ lv : jL, lv 0 = some (jR (some 76)) → lv 1 = some (jI x1) → lv 2 = some (jI x2) → lv 3 = some (jI x3) → lv 4 = some (jI x4) → lv 5 = some (jI x5) → lv 6 = some (jJ x6) → lv 8 = some (jI x8) → lv 9 = some (jI x9) → lv 10 = some (jI x10) → lv 11 = some (jJ s.1) → lv 13 = some (jI s.2) → ey (mm_xt L xs) 4 283 66 lv [] (jhm b m) r)) (fun x => (∀ lv : jL, lv 0 = some (jR (some 76)) → lv 1 = some (jI x1) → lv 2 = some (jI x2) → lv 3 = some (jI x3) → lv 4 = some (jI x4) → lv 5 = some (jI x5) → lv 6 = some (jJ x6) → lv 8 = some (jI x8) → lv 9 = some (jI x9) → lv 10 = some (jI x10) → lv 11 = some (jJ x) → ey (mm_xt L xs) 4 283 158 lv [] (jhm b m) r)) o) : ∀ lv : jL, lv 0 = some (jR (some 76)) → lv 1 = some (jI x1) → lv 2 = some (jI x2) → lv 3 = some (jI x3) → lv 4 = some (jI x4) → lv 5 = some (jI x5) → lv 6 = some (jJ x6) → lv 8 = some (jI x8) → lv 9 = some (jI x9) → lv 10 = some (jI x10) → lv 11 = some (jJ x11) → lv 13 = some (jI x13) → ey (mm_xt L xs) 4 283 66 lv [] (jhm b m) r := by
  intro lv f0 f1 f2 f3 f4 f5 f6 f8 f9 f10 f11 f13
  unfold jd_283_s66 at e
  refine ey_iload (cd_283 rfl) f13 ?_
  refine ey_bipush (cd_283 rfl) (by decide) ?_
  by_cases q9 : 64 ≤ (jw x13)
  · rw [if_pos q9] at e
    refine ey_cge (cd_283 rfl) rfl rfl (show jw 64 = 64 from by decide) q9 ?_
    cases e
    exact K lv f0 f1 f2 f3 f4 f5 f6 f8 f9 f10 f11
  · rw [if_neg q9] at e
    refine ey_nge (cd_283 rfl) rfl rfl (show jw 64 = 64 from by decide) q9 ?_
    refine ey_bipush (cd_283 rfl) (by decide) ?_
    refine ey_aload_n (cd_283 rfl) f0 ?_
    refine ey_iload_n (cd_283 rfl) f2 ?_
    obtain ⟨v10, e11, e⟩ := jbind e
    refine ey_cv (s0 := [jI x2, jR (some 76), jI 8]) (s1 := [jI 8]) (st' := [jI v10, jI 8]) (cd_283 rfl) mt_283 mt_245 rfl rfl rfl (jhm_is hb) rfl (jsml_s rfl) rfl (mm_Runs.up (d := 1) (by decide) (ok_245 hb h6 e11)) ?_
    refine ey_imul (cd_283 rfl) ?_
    refine ey_iload (cd_283 rfl) f13 ?_
    refine ey_bipush (cd_283 rfl) (by decide) ?_
    refine ey_irem (cd_283 rfl) (by decide) ?_
    refine ey_iadd (cd_283 rfl) ?_
    refine ey_istore (cd_283 rfl) mt_283 rfl ?_
    refine ey_bipush (cd_283 rfl) (by decide) ?_
    refine ey_aload_n (cd_283 rfl) f0 ?_
    refine ey_iload_n (cd_283 rfl) f2 ?_
    obtain ⟨v12, e13, e⟩ := jbind e
    refine ey_cv (s0 := [jI x2, jR (some 76), jI 8]) (s1 := [jI 8]) (st' := [jI v12, jI 8]) (cd_283 rfl) mt_283 mt_246 rfl rfl rfl (jhm_is hb) rfl (jsml_s rfl) rfl (mm_Runs.up (d := 1) (by decide) (ok_246 hb h6 e13)) ?_
    refine ey_imul (cd_283 rfl) ?_
    refine ey_iload (cd_283 rfl) (jup_pi (lv := lv) (j := 13) (v := jI ((8 * v10) + (jrem x13 8))) (z := x13) f13) ?_
    refine ey_bipush (cd_283 rfl) (by decide) ?_
    refine ey_idiv (cd_283 rfl) (by decide) ?_
    refine ey_iadd (cd_283 rfl) ?_
    refine ey_istore (cd_283 rfl) mt_283 rfl ?_
    refine ey_aload_n (cd_283 rfl) f0 ?_
    refine ey_iload_n (cd_283 rfl) f3 ?_
    refine ey_iconst (cd_283 rfl) ?_
    refine ey_iload (cd_283 rfl) (jup_pi (lv := (jup lv 14 (jI ((8 * v10) + (jrem x13 8))))) (j := 14) (v := jI ((8 * v12) + (jdiv x13 8))) (z := ((8 * v10) + (jrem x13 8))) rfl) ?_
    refine ey_iload (cd_283 rfl) rfl ?_
    refine ey_iload (cd_283 rfl) f10 ?_
    refine ey_iload (cd_283 rfl) f9 ?_
    obtain ⟨v14, e15, e⟩ := jbind e
    refine ey_cv (s0 := [jI x9, jI x10, jI ((8 * v12) + (jdiv x13 8)), jI ((8 * v10) + (jrem x13 8)), jI 0, jI x3, jR (some 76)]) (s1 := []) (st' := [jI v14]) (cd_283 rfl) mt_283 mt_251 rfl rfl rfl (jhm_is hb) rfl (jsml_s rfl) rfl (ok_251 hb h6 e15) ?_
    refine ey_aload_n (cd_283 rfl) f0 ?_
    refine ey_iload_n (cd_283 rfl) f1 ?_
    refine ey_iconst (cd_283 rfl) ?_
    refine ey_iload (cd_283 rfl) (jup_pi (lv := (jup lv 14 (jI ((8 * v10) + (jrem x13 8))))) (j := 14) (v := jI ((8 * v12) + (jdiv x13 8))) (z := ((8 * v10) + (jrem x13 8))) rfl) ?_
    refine ey_iload (cd_283 rfl) rfl ?_
    obtain ⟨v16, e17, e⟩ := jbind e
    refine ey_cv (s0 := [jI ((8 * v12) + (jdiv x13 8)), jI ((8 * v10) + (jrem x13 8)), jI 0, jI x1, jR (some 76), jI v14]) (s1 := [jI v14]) (st' := [jI v16, jI v14]) (cd_283 rfl) mt_283 mt_279 rfl rfl rfl (jhm_is hb) rfl (jsml_s rfl) rfl (mm_Runs.up (d := 2) (by decide) (ok_279 hb h6 e17)) ?_
    refine ey_isub (cd_283 rfl) ?_
    refine ey_istore (cd_283 rfl) mt_283 rfl ?_
    refine ey_lload (cd_283 rfl) f11 ?_
    refine ey_iload (cd_283 rfl) rfl ?_
    have K18 : ∀ lv : jL, lv 0 = some (jR (some 76)) → lv 1 = some (jI x1) → lv 2 = some (jI x2) → lv 3 = some (jI x3) → lv 4 = some (jI x4) → lv 5 = some (jI x5) → lv 6 = some (jJ x6) → lv 8 = some (jI x8) → lv 9 = some (jI x9) → lv 10 = some (jI x10) → lv 13 = some (jI x13) → ey (mm_xt L xs) 4 283 149 lv [jJ (if 0 ≤ (jw (v14 - v16)) then (jw (v14 - v16)) else (jw (-(v14 - v16)))), jJ x11] (jhm b m) r := by
      intro lv g0 g1 g2 g3 g4 g5 g6 g8 g9 g10 g13
      exact jk_283_b149 hb h6 e K lv g0 g1 g2 g3 g4 g5 g6 g8 g9 g10 g13
    by_cases q19 : 0 ≤ (jw (v14 - v16))
    · refine ey_zge (cd_283 rfl) rfl rfl q19 ?_
      refine ey_iload (cd_283 rfl) rfl ?_
      refine ey_i2l (cd_283 rfl) ?_
      exact ey_rs (s0 := [jJ (jw (v14 - v16)), jJ x11]) (s1 := [jJ (if 0 ≤ (jw (v14 - v16)) then (jw (v14 - v16)) else (jw (-(v14 - v16)))), jJ x11]) (by rw [show ((if 0 ≤ (jw (v14 - v16)) then (jw (v14 - v16)) else (jw (-(v14 - v16)))) : Int) = (jw (v14 - v16)) from (if_pos q19)]) (K18 (jup (jup (jup lv 14 (jI ((8 * v10) + (jrem x13 8)))) 15 (jI ((8 * v12) + (jdiv x13 8)))) 16 (jI (v14 - v16))) f0 f1 f2 f3 f4 f5 f6 f8 f9 f10 (jup_o rfl (jup_o rfl (jup_pi (lv := lv) (j := 13) (v := jI ((8 * v10) + (jrem x13 8))) (z := x13) f13))))
    · refine ey_yge (cd_283 rfl) rfl rfl q19 ?_
      refine ey_iload (cd_283 rfl) rfl ?_
      refine ey_ineg (cd_283 rfl) ?_
      refine ey_i2l (cd_283 rfl) ?_
      refine ey_goto (cd_283 rfl) rfl ?_
      exact ey_rs (s0 := [jJ (jw (-(v14 - v16))), jJ x11]) (s1 := [jJ (if 0 ≤ (jw (v14 - v16)) then (jw (v14 - v16)) else (jw (-(v14 - v16)))), jJ x11]) (by rw [show ((if 0 ≤ (jw (v14 - v16)) then (jw (v14 - v16)) else (jw (-(v14 - v16)))) : Int) = (jw (-(v14 - v16))) from (if_neg q19)]) (K18 (jup (jup (jup lv 14 (jI ((8 * v10) + (jrem x13 8)))) 15 (jI ((8 * v12) + (jdiv x13 8)))) 16 (jI (v14 - v16))) f0 f1 f2 f3 f4 f5 f6 f8 f9 f10 (jup_o rfl (jup_o rfl (jup_pi (lv := lv) (j := 13) (v := jI ((8 * v10) + (jrem x13 8))) (z := x13) f13))))
theorem jk_283_l66 {L : Nat} {xs : Nat → Int32} {b : jH} (hb : 152 ≤ b.1) (h6 : b.1 ≤ 1000000) {x1 : Int} {x2 : Int} {x3 : Int} {x4 : Int} {x5 : Int} {x6 : Int} {x8 : Int} {x9 : Int} {x10 : Int} {x11 : Int} {x13 : Int} {m : jM} {x : Int} {r : mm_R} (e : jd_283_l66 x1 x2 x3 x4 x5 x6 x8 x9 x10 x11 x13 m = some x) (K : (∀ lv : jL, lv 0 = some (jR (some 76)) → lv 1 = some (jI x1) → lv 2 = some (jI x2) → lv 3 = some (jI x3) → lv 4 = some (jI x4) → lv 5 = some (jI x5) → lv 6 = some (jJ x6) → lv 8 = some (jI x8) → lv 9 = some (jI x9) → lv 10 = some (jI x10) → lv 11 = some (jJ x) → ey (mm_xt L xs) 4 283 158 lv [] (jhm b m) r)) : ∀ lv : jL, lv 0 = some (jR (some 76)) → lv 1 = some (jI x1) → lv 2 = some (jI x2) → lv 3 = some (jI x3) → lv 4 = some (jI x4) → lv 5 = some (jI x5) → lv 6 = some (jJ x6) → lv 8 = some (jI x8) → lv 9 = some (jI x9) → lv 10 = some (jI x10) → lv 11 = some (jJ x11) → lv 13 = some (jI x13) → ey (mm_xt L xs) 4 283 66 lv [] (jhm b m) r := by
  unfold jd_283_l66 at e
  exact jlp_ok2 (P := fun s => ∀ lv : jL, lv 0 = some (jR (some 76)) → lv 1 = some (jI x1) → lv 2 = some (jI x2) → lv 3 = some (jI x3) → lv 4 = some (jI x4) → lv 5 = some (jI x5) → lv 6 = some (jJ x6) → lv 8 = some (jI x8) → lv 9 = some (jI x9) → lv 10 = some (jI x10) → lv 11 = some (jJ s.1) → lv 13 = some (jI s.2) → ey (mm_xt L xs) 4 283 66 lv [] (jhm b m) r) (Q := fun x => (∀ lv : jL, lv 0 = some (jR (some 76)) → lv 1 = some (jI x1) → lv 2 = some (jI x2) → lv 3 = some (jI x3) → lv 4 = some (jI x4) → lv 5 = some (jI x5) → lv 6 = some (jJ x6) → lv 8 = some (jI x8) → lv 9 = some (jI x9) → lv 10 = some (jI x10) → lv 11 = some (jJ x) → ey (mm_xt L xs) 4 283 158 lv [] (jhm b m) r)) (fun s q hq hk => jk_283_s66 hb h6 hq hk) jfu _ x e K
set_option maxRecDepth 100000 in
theorem jk_283_b192 {L : Nat} {xs : Nat → Int32} {b : jH} (hb : 152 ≤ b.1) (h6 : b.1 ≤ 1000000) {x1 : Int} {x2 : Int} {x3 : Int} {x4 : Int} {x5 : Int} {x6 : Int} {x8 : Int} {x9 : Int} {x10 : Int} {m : jM} {o : ((Int × Int × jM) ⊕ (Int × jM))} {r : mm_R} (e : jd_283_b192 x1 x2 x3 x4 x5 x6 x8 x9 x10 m = some o) (K : jsm (fun s => (∀ lv : jL, lv 0 = some (jR (some 76)) → lv 1 = some (jI x1) → lv 2 = some (jI x2) → lv 3 = some (jI x3) → lv 4 = some (jI x4) → lv 5 = some (jI x5) → lv 6 = some (jJ s.1) → lv 8 = some (jI x8) → lv 9 = some (jI x9) → lv 10 = some (jI s.2.1) → ey (mm_xt L xs) 4 283 30 lv [] (jhm b s.2.2) r)) (fun x => (∀ lv : jL, lv 0 = some (jR (some 76)) → lv 1 = some (jI x1) → lv 2 = some (jI x2) → lv 3 = some (jI x3) → lv 4 = some (jI x4) → lv 5 = some (jI x5) → lv 6 = some (jJ x.1) → lv 8 = some (jI x8) → lv 9 = some (jI x9) → ey (mm_xt L xs) 4 283 198 lv [] (jhm b x.2) r)) o) : ∀ lv : jL, lv 0 = some (jR (some 76)) → lv 1 = some (jI x1) → lv 2 = some (jI x2) → lv 3 = some (jI x3) → lv 4 = some (jI x4) → lv 5 = some (jI x5) → lv 6 = some (jJ x6) → lv 8 = some (jI x8) → lv 9 = some (jI x9) → lv 10 = some (jI x10) → ey (mm_xt L xs) 4 283 192 lv [] (jhm b m) r := by
  intro lv f0 f1 f2 f3 f4 f5 f6 f8 f9 f10
  unfold jd_283_b192 at e
  refine ey_iinc (cd_283 rfl) mt_283 rfl f10 ?_
  refine ey_goto (cd_283 rfl) rfl ?_
  cases e
  exact K (jup lv 10 (jI (x10 + 1))) f0 f1 f2 f3 f4 f5 f6 f8 (jup_pi (lv := lv) (j := 9) (v := jI (x10 + 1)) (z := x9) f9) rfl
set_option maxRecDepth 100000 in
theorem jk_283_b176 {L : Nat} {xs : Nat → Int32} {b : jH} (hb : 152 ≤ b.1) (h6 : b.1 ≤ 1000000) {x1 : Int} {x2 : Int} {x3 : Int} {x4 : Int} {x5 : Int} {x8 : Int} {x9 : Int} {x10 : Int} {x11 : Int} {m : jM} {o : ((Int × Int × jM) ⊕ (Int × jM))} {r : mm_R} (e : jd_283_b176 x1 x2 x3 x4 x5 x8 x9 x10 x11 m = some o) (K : jsm (fun s => (∀ lv : jL, lv 0 = some (jR (some 76)) → lv 1 = some (jI x1) → lv 2 = some (jI x2) → lv 3 = some (jI x3) → lv 4 = some (jI x4) → lv 5 = some (jI x5) → lv 6 = some (jJ s.1) → lv 8 = some (jI x8) → lv 9 = some (jI x9) → lv 10 = some (jI s.2.1) → ey (mm_xt L xs) 4 283 30 lv [] (jhm b s.2.2) r)) (fun x => (∀ lv : jL, lv 0 = some (jR (some 76)) → lv 1 = some (jI x1) → lv 2 = some (jI x2) → lv 3 = some (jI x3) → lv 4 = some (jI x4) → lv 5 = some (jI x5) → lv 6 = some (jJ x.1) → lv 8 = some (jI x8) → lv 9 = some (jI x9) → ey (mm_xt L xs) 4 283 198 lv [] (jhm b x.2) r)) o) : ∀ lv : jL, lv 0 = some (jR (some 76)) → lv 1 = some (jI x1) → lv 2 = some (jI x2) → lv 3 = some (jI x3) → lv 4 = some (jI x4) → lv 5 = some (jI x5) → lv 8 = some (jI x8) → lv 9 = some (jI x9) → lv 10 = some (jI x10) → lv 11 = some (jJ x11) → ey (mm_xt L xs) 4 283 176 lv [] (jhm b m) r := by
  intro lv f0 f1 f2 f3 f4 f5 f8 f9 f10 f11
  unfold jd_283_b176 at e
  refine ey_lload (cd_283 rfl) f11 ?_
  refine ey_lstore (cd_283 rfl) mt_283 rfl ?_
  refine ey_aload_n (cd_283 rfl) f0 ?_
  refine ey_iload (cd_283 rfl) f10 ?_
  obtain ⟨m23, e24, e⟩ := jbind e
  refine ey_putf_i (cd_283 rfl) mt_283 rfl rfl rfl (jhm_pi' (k := 76) hb e24) ?_
  refine ey_aload_n (cd_283 rfl) f0 ?_
  refine ey_iload (cd_283 rfl) f9 ?_
  obtain ⟨m25, e26, e⟩ := jbind e
  refine ey_putf_i (cd_283 rfl) mt_283 rfl rfl rfl (jhm_pi' (k := 77) hb e26) ?_
  exact jk_283_b192 hb h6 e K (jup2 lv 6 (jJ x11)) f0 f1 f2 f3 f4 (jup2_pi (lv := lv) (j := 5) (v := jJ x11) (z := x5) f5) rfl f8 f9 f10
set_option maxRecDepth 100000 in
theorem jk_283_s30 {L : Nat} {xs : Nat → Int32} {b : jH} (hb : 152 ≤ b.1) (h6 : b.1 ≤ 1000000) {x1 : Int} {x2 : Int} {x3 : Int} {x4 : Int} {x5 : Int} {x8 : Int} {x9 : Int} {x6 : Int} {x10 : Int} {m : jM} {o : ((Int × Int × jM) ⊕ (Int × jM))} {r : mm_R} (e : jd_283_s30 x1 x2 x3 x4 x5 x8 x9 x6 x10 m = some o) (K : jsm (fun s => (∀ lv : jL, lv 0 = some (jR (some 76)) → lv 1 = some (jI x1) → lv 2 = some (jI x2) → lv 3 = some (jI x3) → lv 4 = some (jI x4) → lv 5 = some (jI x5) → lv 6 = some (jJ s.1) → lv 8 = some (jI x8) → lv 9 = some (jI x9) → lv 10 = some (jI s.2.1) → ey (mm_xt L xs) 4 283 30 lv [] (jhm b s.2.2) r)) (fun x => (∀ lv : jL, lv 0 = some (jR (some 76)) → lv 1 = some (jI x1) → lv 2 = some (jI x2) → lv 3 = some (jI x3) → lv 4 = some (jI x4) → lv 5 = some (jI x5) → lv 6 = some (jJ x.1) → lv 8 = some (jI x8) → lv 9 = some (jI x9) → ey (mm_xt L xs) 4 283 198 lv [] (jhm b x.2) r)) o) : ∀ lv : jL, lv 0 = some (jR (some 76)) → lv 1 = some (jI x1) → lv 2 = some (jI x2) → lv 3 = some (jI x3) → lv 4 = some (jI x4) → lv 5 = some (jI x5) → lv 6 = some (jJ x6) → lv 8 = some (jI x8) → lv 9 = some (jI x9) → lv 10 = some (jI x10) → ey (mm_xt L xs) 4 283 30 lv [] (jhm b m) r := by
  intro lv f0 f1 f2 f3 f4 f5 f6 f8 f9 f10
  unfold jd_283_s30 at e
  refine ey_iload (cd_283 rfl) f10 ?_
  refine ey_iload (cd_283 rfl) f8 ?_
  by_cases q4 : (jw x8) < (jw x10)
  · rw [if_pos q4] at e
    refine ey_cgt (cd_283 rfl) rfl rfl rfl q4 ?_
    cases e
    exact K lv f0 f1 f2 f3 f4 f5 f6 f8 f9
  · rw [if_neg q4] at e
    refine ey_ngt (cd_283 rfl) rfl rfl rfl q4 ?_
    refine ey_iload (cd_283 rfl) f10 ?_
    refine ey_iload (cd_283 rfl) f4 ?_
    refine ey_isub (cd_283 rfl) ?_
    refine ey_cs (s0 := [jI (x10 - x4)]) (s1 := []) (st' := [jI (jd_236 (x10 - x4))]) (cd_283 rfl) mt_283 mt_236 rfl (by decide) rfl rfl (jsml_s rfl) rfl (mm_Runs.up (d := 1) (by decide) (ok_236 )) ?_
    obtain ⟨v5, e6, e⟩ := jbind e
    refine ey_cs (s0 := [jI (jd_236 (x10 - x4))]) (s1 := []) (st' := [jI v5]) (cd_283 rfl) mt_283 mt_235 rfl (by decide) rfl rfl (jsml_s rfl) rfl (mm_Runs.up (d := 2) (by decide) (ok_235 e6)) ?_
    refine ey_iload (cd_283 rfl) f9 ?_
    refine ey_iload (cd_283 rfl) f5 ?_
    refine ey_isub (cd_283 rfl) ?_
    refine ey_cs (s0 := [jI (x9 - x5), jI v5]) (s1 := [jI v5]) (st' := [jI (jd_236 (x9 - x5)), jI v5]) (cd_283 rfl) mt_283 mt_236 rfl (by decide) rfl rfl (jsml_s rfl) rfl (mm_Runs.up (d := 1) (by decide) (ok_236 )) ?_
    obtain ⟨v7, e8, e⟩ := jbind e
    refine ey_cs (s0 := [jI (jd_236 (x9 - x5)), jI v5]) (s1 := [jI v5]) (st' := [jI v7, jI v5]) (cd_283 rfl) mt_283 mt_235 rfl (by decide) rfl rfl (jsml_s rfl) rfl (mm_Runs.up (d := 2) (by decide) (ok_235 e8)) ?_
    refine ey_iadd (cd_283 rfl) ?_
    refine ey_i2l (cd_283 rfl) ?_
    refine ey_lstore (cd_283 rfl) mt_283 rfl ?_
    refine ey_iconst (cd_283 rfl) ?_
    refine ey_istore (cd_283 rfl) mt_283 rfl ?_
    obtain ⟨x20, e21, e⟩ := jbind e
    refine jk_283_l66 hb h6 e21 ?_ (jup (jup2 lv 11 (jJ (jw (v5 + v7)))) 13 (jI 0)) f0 f1 f2 f3 f4 f5 f6 f8 f9 (jup_o rfl (jup2_pi (lv := lv) (j := 10) (v := jJ (jw (v5 + v7))) (z := x10) f10)) rfl rfl
    intro lv g0 g1 g2 g3 g4 g5 g6 g8 g9 g10 g11
    refine ey_lload (cd_283 rfl) g6 ?_
    refine ey_lconst0 (cd_283 rfl) ?_
    refine ey_lcmp (cd_283 rfl) ?_
    by_cases q22 : (jwl x6) < 0
    · rw [if_pos q22] at e
      refine ey_zlt (cd_283 rfl) rfl rfl ((jlc_lt rfl (show jwl 0 = 0 from by decide)).mpr q22) ?_
      exact jk_283_b176 hb h6 e K lv g0 g1 g2 g3 g4 g5 g8 g9 g10 g11
    · rw [if_neg q22] at e
      refine ey_ylt (cd_283 rfl) rfl rfl (fun w => q22 ((jlc_lt rfl (show jwl 0 = 0 from by decide)).mp w)) ?_
      refine ey_lload (cd_283 rfl) g11 ?_
      refine ey_lload (cd_283 rfl) g6 ?_
      refine ey_lcmp (cd_283 rfl) ?_
      by_cases q27 : (jwl x20) < (jwl x6)
      · rw [if_pos q27] at e
        refine ey_zlt (cd_283 rfl) rfl rfl ((jlc_lt rfl rfl).mpr q27) ?_
        exact jk_283_b176 hb h6 e K lv g0 g1 g2 g3 g4 g5 g8 g9 g10 g11
      · rw [if_neg q27] at e
        refine ey_ylt (cd_283 rfl) rfl rfl (fun w => q27 ((jlc_lt rfl rfl).mp w)) ?_
        refine ey_goto (cd_283 rfl) rfl ?_
        exact jk_283_b192 hb h6 e K lv g0 g1 g2 g3 g4 g5 g6 g8 g9 g10
theorem jk_283_l30 {L : Nat} {xs : Nat → Int32} {b : jH} (hb : 152 ≤ b.1) (h6 : b.1 ≤ 1000000) {x1 : Int} {x2 : Int} {x3 : Int} {x4 : Int} {x5 : Int} {x8 : Int} {x9 : Int} {x6 : Int} {x10 : Int} {m : jM} {x : (Int × jM)} {r : mm_R} (e : jd_283_l30 x1 x2 x3 x4 x5 x8 x9 x6 x10 m = some x) (K : (∀ lv : jL, lv 0 = some (jR (some 76)) → lv 1 = some (jI x1) → lv 2 = some (jI x2) → lv 3 = some (jI x3) → lv 4 = some (jI x4) → lv 5 = some (jI x5) → lv 6 = some (jJ x.1) → lv 8 = some (jI x8) → lv 9 = some (jI x9) → ey (mm_xt L xs) 4 283 198 lv [] (jhm b x.2) r)) : ∀ lv : jL, lv 0 = some (jR (some 76)) → lv 1 = some (jI x1) → lv 2 = some (jI x2) → lv 3 = some (jI x3) → lv 4 = some (jI x4) → lv 5 = some (jI x5) → lv 6 = some (jJ x6) → lv 8 = some (jI x8) → lv 9 = some (jI x9) → lv 10 = some (jI x10) → ey (mm_xt L xs) 4 283 30 lv [] (jhm b m) r := by
  unfold jd_283_l30 at e
  exact jlp_ok2 (P := fun s => ∀ lv : jL, lv 0 = some (jR (some 76)) → lv 1 = some (jI x1) → lv 2 = some (jI x2) → lv 3 = some (jI x3) → lv 4 = some (jI x4) → lv 5 = some (jI x5) → lv 6 = some (jJ s.1) → lv 8 = some (jI x8) → lv 9 = some (jI x9) → lv 10 = some (jI s.2.1) → ey (mm_xt L xs) 4 283 30 lv [] (jhm b s.2.2) r) (Q := fun x => (∀ lv : jL, lv 0 = some (jR (some 76)) → lv 1 = some (jI x1) → lv 2 = some (jI x2) → lv 3 = some (jI x3) → lv 4 = some (jI x4) → lv 5 = some (jI x5) → lv 6 = some (jJ x.1) → lv 8 = some (jI x8) → lv 9 = some (jI x9) → ey (mm_xt L xs) 4 283 198 lv [] (jhm b x.2) r)) (fun s q hq hk => jk_283_s30 hb h6 hq hk) jfu _ x e K
set_option maxRecDepth 100000 in
theorem jk_283_s18 {L : Nat} {xs : Nat → Int32} {b : jH} (hb : 152 ≤ b.1) (h6 : b.1 ≤ 1000000) {x1 : Int} {x2 : Int} {x3 : Int} {x4 : Int} {x5 : Int} {x8 : Int} {x6 : Int} {x9 : Int} {m : jM} {o : ((Int × Int × jM) ⊕ jM)} {r : mm_R} (e : jd_283_s18 x1 x2 x3 x4 x5 x8 x6 x9 m = some o) (K : jsm (fun s => (∀ lv : jL, lv 0 = some (jR (some 76)) → lv 1 = some (jI x1) → lv 2 = some (jI x2) → lv 3 = some (jI x3) → lv 4 = some (jI x4) → lv 5 = some (jI x5) → lv 6 = some (jJ s.1) → lv 8 = some (jI x8) → lv 9 = some (jI s.2.1) → ey (mm_xt L xs) 4 283 18 lv [] (jhm b s.2.2) r)) (fun x => (∀ lv : jL, ey (mm_xt L xs) 4 283 204 lv [] (jhm b x) r)) o) : ∀ lv : jL, lv 0 = some (jR (some 76)) → lv 1 = some (jI x1) → lv 2 = some (jI x2) → lv 3 = some (jI x3) → lv 4 = some (jI x4) → lv 5 = some (jI x5) → lv 6 = some (jJ x6) → lv 8 = some (jI x8) → lv 9 = some (jI x9) → ey (mm_xt L xs) 4 283 18 lv [] (jhm b m) r := by
  intro lv f0 f1 f2 f3 f4 f5 f6 f8 f9
  unfold jd_283_s18 at e
  refine ey_iload (cd_283 rfl) f9 ?_
  refine ey_iload (cd_283 rfl) f8 ?_
  by_cases q3 : (jw x8) < (jw x9)
  · rw [if_pos q3] at e
    refine ey_cgt (cd_283 rfl) rfl rfl rfl q3 ?_
    cases e
    exact K lv 
  · rw [if_neg q3] at e
    refine ey_ngt (cd_283 rfl) rfl rfl rfl q3 ?_
    refine ey_iload (cd_283 rfl) f8 ?_
    refine ey_ineg (cd_283 rfl) ?_
    refine ey_istore (cd_283 rfl) mt_283 rfl ?_
    obtain ⟨x28, e29, e⟩ := jbind e
    refine jk_283_l30 hb h6 e29 ?_ (jup lv 10 (jI (-x8))) f0 f1 f2 f3 f4 f5 f6 f8 (jup_pi (lv := lv) (j := 9) (v := jI (-x8)) (z := x9) f9) rfl
    intro lv g0 g1 g2 g3 g4 g5 g6 g8 g9
    refine ey_iinc (cd_283 rfl) mt_283 rfl g9 ?_
    refine ey_goto (cd_283 rfl) rfl ?_
    cases e
    exact K (jup lv 9 (jI (x9 + 1))) g0 g1 g2 g3 g4 g5 g6 (jup_pi (lv := lv) (j := 8) (v := jI (x9 + 1)) (z := x8) g8) rfl
theorem jk_283_l18 {L : Nat} {xs : Nat → Int32} {b : jH} (hb : 152 ≤ b.1) (h6 : b.1 ≤ 1000000) {x1 : Int} {x2 : Int} {x3 : Int} {x4 : Int} {x5 : Int} {x8 : Int} {x6 : Int} {x9 : Int} {m : jM} {x : jM} {r : mm_R} (e : jd_283_l18 x1 x2 x3 x4 x5 x8 x6 x9 m = some x) (K : (∀ lv : jL, ey (mm_xt L xs) 4 283 204 lv [] (jhm b x) r)) : ∀ lv : jL, lv 0 = some (jR (some 76)) → lv 1 = some (jI x1) → lv 2 = some (jI x2) → lv 3 = some (jI x3) → lv 4 = some (jI x4) → lv 5 = some (jI x5) → lv 6 = some (jJ x6) → lv 8 = some (jI x8) → lv 9 = some (jI x9) → ey (mm_xt L xs) 4 283 18 lv [] (jhm b m) r := by
  unfold jd_283_l18 at e
  exact jlp_ok2 (P := fun s => ∀ lv : jL, lv 0 = some (jR (some 76)) → lv 1 = some (jI x1) → lv 2 = some (jI x2) → lv 3 = some (jI x3) → lv 4 = some (jI x4) → lv 5 = some (jI x5) → lv 6 = some (jJ s.1) → lv 8 = some (jI x8) → lv 9 = some (jI s.2.1) → ey (mm_xt L xs) 4 283 18 lv [] (jhm b s.2.2) r) (Q := fun x => (∀ lv : jL, ey (mm_xt L xs) 4 283 204 lv [] (jhm b x) r)) (fun s q hq hk => jk_283_s18 hb h6 hq hk) jfu _ x e K
set_option maxRecDepth 100000 in
theorem ok_283 {L : Nat} {xs : Nat → Int32} {b : jH} (hb : 152 ≤ b.1) (h6 : b.1 ≤ 1000000) {p0 : Int} {p1 : Int} {p2 : Int} {p3 : Int} {p4 : Int} {m : jM} {o : jM} (e : jd_283 p0 p1 p2 p3 p4 m = some o) : mm_Runs (mm_xt L xs) 5 283 ([jR (some 76), jI p0, jI p1, jI p2, jI p3, jI p4].map jcv) (jaH (jhm b m)) (.inl (none, jaH (jhm b o))) := by
  refine ey_run0 _ mt_283 (jsl_s rfl) ?_
  unfold jd_283 at e
  refine ey_ldc2 (z := (-1)) (cd_283 rfl) mt_283 rfl (by decide) ?_
  refine ey_lstore (cd_283 rfl) mt_283 rfl ?_
  refine ey_aload_n (cd_283 rfl) rfl ?_
  refine ey_getf_r (cd_283 rfl) mt_283 rfl rfl rfl (jhm_gr (q := 82) hb rfl) ?_
  refine ey_iconst (cd_283 rfl) ?_
  obtain ⟨v1, e2, e⟩ := jbind e
  refine ey_iald (cd_283 rfl) (jhm_ai hb h6 (by decide) rfl e2) ?_
  refine ey_istore (cd_283 rfl) mt_283 rfl ?_
  refine ey_iload (cd_283 rfl) rfl ?_
  refine ey_ineg (cd_283 rfl) ?_
  refine ey_istore (cd_283 rfl) mt_283 rfl ?_
  obtain ⟨x30, e31, e⟩ := jbind e
  refine jk_283_l18 hb h6 e31 ?_ (jup (jup (jup2 (jlf (jla 0 [jR (some 76), jI p0, jI p1, jI p2, jI p3, jI p4])) 6 (jJ (-1))) 8 (jI v1)) 9 (jI (-v1))) rfl rfl rfl rfl rfl (jup_o rfl (jup_o rfl (jup2_pi (lv := (jlf (jla 0 [jR (some 76), jI p0, jI p1, jI p2, jI p3, jI p4]))) (j := 5) (v := jJ (-1)) (z := p4) rfl))) rfl (jup_pi (lv := (jup (jup2 (jlf (jla 0 [jR (some 76), jI p0, jI p1, jI p2, jI p3, jI p4])) 6 (jJ (-1))) 8 (jI v1))) (j := 8) (v := jI (-v1)) (z := v1) rfl) rfl
  intro lv 
  cases e
  exact ey_retv (cd_283 rfl) mt_283 rfl
theorem cd_284 {pc : Nat} {i : Instr × Nat} (h : mm_lk mm_c284 pc = some i) : mm_cd 284 pc = some i := h
theorem mt_284 : mm_MT 284 = (12, 15, none, 5, 0, []) := rfl
set_option maxRecDepth 100000 in
theorem jk_284_s33 {L : Nat} {xs : Nat → Int32} {b : jH} (hb : 152 ≤ b.1) (h6 : b.1 ≤ 1000000) {x1 : Int} {x2 : Int} {x3 : Int} {x4 : Int} {x5 : Int} {x6 : Int} {m : jM} {o : ((Int × jM) ⊕ jM)} {r : mm_R} (e : jd_284_s33 x1 x2 x3 x4 x5 x6 m = some o) (K : jsm (fun s => (∀ lv : jL, lv 0 = some (jR (some 76)) → lv 1 = some (jI x1) → lv 2 = some (jI x2) → lv 3 = some (jI x3) → lv 4 = some (jI x4) → lv 5 = some (jI x5) → lv 6 = some (jI s.1) → ey (mm_xt L xs) 6 284 33 lv [] (jhm b s.2) r)) (fun x => (∀ lv : jL, lv 0 = some (jR (some 76)) → lv 1 = some (jI x1) → lv 2 = some (jI x2) → lv 3 = some (jI x3) → lv 4 = some (jI x4) → lv 5 = some (jI x5) → ey (mm_xt L xs) 6 284 54 lv [] (jhm b x) r)) o) : ∀ lv : jL, lv 0 = some (jR (some 76)) → lv 1 = some (jI x1) → lv 2 = some (jI x2) → lv 3 = some (jI x3) → lv 4 = some (jI x4) → lv 5 = some (jI x5) → lv 6 = some (jI x6) → ey (mm_xt L xs) 6 284 33 lv [] (jhm b m) r := by
  intro lv f0 f1 f2 f3 f4 f5 f6
  unfold jd_284_s33 at e
  refine ey_iload (cd_284 rfl) f6 ?_
  refine ey_bipush (cd_284 rfl) (by decide) ?_
  by_cases q11 : 96 ≤ (jw x6)
  · rw [if_pos q11] at e
    refine ey_cge (cd_284 rfl) rfl rfl (show jw 96 = 96 from by decide) q11 ?_
    cases e
    exact K lv f0 f1 f2 f3 f4 f5
  · rw [if_neg q11] at e
    refine ey_nge (cd_284 rfl) rfl rfl (show jw 96 = 96 from by decide) q11 ?_
    refine ey_aload_n (cd_284 rfl) f0 ?_
    refine ey_getf_r (cd_284 rfl) mt_284 rfl rfl rfl (jhm_gr (q := 115) hb rfl) ?_
    refine ey_iload (cd_284 rfl) f6 ?_
    refine ey_iconst (cd_284 rfl) ?_
    obtain ⟨m12, e13, e⟩ := jbind e
    refine ey_iast (cd_284 rfl) (jhm_ta hb (by decide) rfl e13) ?_
    refine ey_iinc (cd_284 rfl) mt_284 rfl f6 ?_
    refine ey_goto (cd_284 rfl) rfl ?_
    cases e
    exact K (jup lv 6 (jI (x6 + 1))) f0 f1 f2 f3 f4 (jup_pi (lv := lv) (j := 5) (v := jI (x6 + 1)) (z := x5) f5) rfl
theorem jk_284_l33 {L : Nat} {xs : Nat → Int32} {b : jH} (hb : 152 ≤ b.1) (h6 : b.1 ≤ 1000000) {x1 : Int} {x2 : Int} {x3 : Int} {x4 : Int} {x5 : Int} {x6 : Int} {m : jM} {x : jM} {r : mm_R} (e : jd_284_l33 x1 x2 x3 x4 x5 x6 m = some x) (K : (∀ lv : jL, lv 0 = some (jR (some 76)) → lv 1 = some (jI x1) → lv 2 = some (jI x2) → lv 3 = some (jI x3) → lv 4 = some (jI x4) → lv 5 = some (jI x5) → ey (mm_xt L xs) 6 284 54 lv [] (jhm b x) r)) : ∀ lv : jL, lv 0 = some (jR (some 76)) → lv 1 = some (jI x1) → lv 2 = some (jI x2) → lv 3 = some (jI x3) → lv 4 = some (jI x4) → lv 5 = some (jI x5) → lv 6 = some (jI x6) → ey (mm_xt L xs) 6 284 33 lv [] (jhm b m) r := by
  unfold jd_284_l33 at e
  exact jlp_ok2 (P := fun s => ∀ lv : jL, lv 0 = some (jR (some 76)) → lv 1 = some (jI x1) → lv 2 = some (jI x2) → lv 3 = some (jI x3) → lv 4 = some (jI x4) → lv 5 = some (jI x5) → lv 6 = some (jI s.1) → ey (mm_xt L xs) 6 284 33 lv [] (jhm b s.2) r) (Q := fun x => (∀ lv : jL, lv 0 = some (jR (some 76)) → lv 1 = some (jI x1) → lv 2 = some (jI x2) → lv 3 = some (jI x3) → lv 4 = some (jI x4) → lv 5 = some (jI x5) → ey (mm_xt L xs) 6 284 54 lv [] (jhm b x) r)) (fun s q hq hk => jk_284_s33 hb h6 hq hk) jfu _ x e K
set_option maxRecDepth 100000 in
theorem jk_284_b282 {L : Nat} {xs : Nat → Int32} {b : jH} (hb : 152 ≤ b.1) (h6 : b.1 ≤ 1000000) {x1 : Int} {x2 : Int} {x4 : Int} {x5 : Int} {x6 : Int} {x7 : Int} {x8 : Int} {x9 : Int} {m : jM} {o : ((Int × jM) ⊕ jM)} {r : mm_R} (e : jd_284_b282 x1 x2 x4 x5 x6 x7 x8 x9 m = some o) (K : jsm (fun s => (∀ lv : jL, lv 0 = some (jR (some 76)) → lv 1 = some (jI x1) → lv 2 = some (jI x2) → lv 4 = some (jI x4) → lv 5 = some (jI x5) → lv 6 = some (jI x6) → lv 7 = some (jI x7) → lv 8 = some (jI x8) → lv 9 = some (jI s.1) → ey (mm_xt L xs) 6 284 191 lv [] (jhm b s.2) r)) (fun x => (∀ lv : jL, lv 0 = some (jR (some 76)) → lv 1 = some (jI x1) → lv 2 = some (jI x2) → lv 4 = some (jI x4) → lv 5 = some (jI x5) → lv 6 = some (jI x6) → ey (mm_xt L xs) 6 284 288 lv [] (jhm b x) r)) o) : ∀ lv : jL, lv 0 = some (jR (some 76)) → lv 1 = some (jI x1) → lv 2 = some (jI x2) → lv 4 = some (jI x4) → lv 5 = some (jI x5) → lv 6 = some (jI x6) → lv 7 = some (jI x7) → lv 8 = some (jI x8) → lv 9 = some (jI x9) → ey (mm_xt L xs) 6 284 282 lv [] (jhm b m) r := by
  intro lv f0 f1 f2 f4 f5 f6 f7 f8 f9
  unfold jd_284_b282 at e
  refine ey_iinc (cd_284 rfl) mt_284 rfl f9 ?_
  refine ey_goto (cd_284 rfl) rfl ?_
  cases e
  exact K (jup lv 9 (jI (x9 + 1))) f0 f1 f2 f4 f5 f6 f7 (jup_pi (lv := lv) (j := 8) (v := jI (x9 + 1)) (z := x8) f8) rfl
set_option maxRecDepth 100000 in
theorem jk_284_b262 {L : Nat} {xs : Nat → Int32} {b : jH} (hb : 152 ≤ b.1) (h6 : b.1 ≤ 1000000) {x1 : Int} {x2 : Int} {x4 : Int} {x5 : Int} {x6 : Int} {x7 : Int} {x8 : Int} {x9 : Int} {x10 : Int} {m : jM} {o : ((Int × jM) ⊕ jM)} {r : mm_R} (e : jd_284_b262 x1 x2 x4 x5 x6 x7 x8 x9 x10 m = some o) (K : jsm (fun s => (∀ lv : jL, lv 0 = some (jR (some 76)) → lv 1 = some (jI x1) → lv 2 = some (jI x2) → lv 4 = some (jI x4) → lv 5 = some (jI x5) → lv 6 = some (jI x6) → lv 7 = some (jI x7) → lv 8 = some (jI x8) → lv 9 = some (jI s.1) → ey (mm_xt L xs) 6 284 191 lv [] (jhm b s.2) r)) (fun x => (∀ lv : jL, lv 0 = some (jR (some 76)) → lv 1 = some (jI x1) → lv 2 = some (jI x2) → lv 4 = some (jI x4) → lv 5 = some (jI x5) → lv 6 = some (jI x6) → ey (mm_xt L xs) 6 284 288 lv [] (jhm b x) r)) o) : ∀ lv : jL, lv 0 = some (jR (some 76)) → lv 1 = some (jI x1) → lv 2 = some (jI x2) → lv 4 = some (jI x4) → lv 5 = some (jI x5) → lv 6 = some (jI x6) → lv 7 = some (jI x7) → lv 8 = some (jI x8) → lv 9 = some (jI x9) → lv 10 = some (jI x10) → ey (mm_xt L xs) 6 284 262 lv [] (jhm b m) r := by
  intro lv f0 f1 f2 f4 f5 f6 f7 f8 f9 f10
  unfold jd_284_b262 at e
  refine ey_aload_n (cd_284 rfl) f0 ?_
  refine ey_iload (cd_284 rfl) f10 ?_
  refine ey_aload_n (cd_284 rfl) f0 ?_
  refine ey_iload_n (cd_284 rfl) f1 ?_
  refine ey_iload_n (cd_284 rfl) f2 ?_
  refine ey_iload (cd_284 rfl) f9 ?_
  refine ey_iconst (cd_284 rfl) ?_
  refine ey_iadd (cd_284 rfl) ?_
  obtain ⟨v41, e42, e⟩ := jbind e
  refine ey_cv (s0 := [jI (x9 + 1), jI x2, jI x1, jR (some 76), jI x10, jR (some 76)]) (s1 := [jI x10, jR (some 76)]) (st' := [jI v41, jI x10, jR (some 76)]) (cd_284 rfl) mt_284 mt_260 rfl rfl rfl (jhm_is hb) rfl (jsml_s rfl) rfl (mm_Runs.up (d := 2) (by decide) (ok_260 hb h6 e42)) ?_
  refine ey_isub (cd_284 rfl) ?_
  refine ey_cs (s0 := [jI (x10 - v41), jR (some 76)]) (s1 := [jR (some 76)]) (st' := [jI (jd_236 (x10 - v41)), jR (some 76)]) (cd_284 rfl) mt_284 mt_236 rfl (by decide) rfl rfl (jsml_s rfl) rfl (mm_Runs.up (d := 1) (by decide) (ok_236 )) ?_
  obtain ⟨m43, e44, e⟩ := jbind e
  refine ey_cv (s0 := [jI (jd_236 (x10 - v41)), jR (some 76)]) (s1 := []) (st' := []) (cd_284 rfl) mt_284 mt_234 rfl rfl rfl (jhm_is hb) rfl (jsml_s rfl) rfl (mm_Runs.up (d := 2) (by decide) (ok_234 hb h6 e44)) ?_
  exact jk_284_b282 hb h6 e K lv f0 f1 f2 f4 f5 f6 f7 f8 f9
set_option maxRecDepth 100000 in
theorem jk_284_b239 {L : Nat} {xs : Nat → Int32} {b : jH} (hb : 152 ≤ b.1) (h6 : b.1 ≤ 1000000) {x1 : Int} {x2 : Int} {x4 : Int} {x5 : Int} {x6 : Int} {x7 : Int} {x8 : Int} {x9 : Int} {y0 : Int} {m : jM} {o : ((Int × jM) ⊕ jM)} {r : mm_R} (e : jd_284_b239 x1 x2 x4 x5 x6 x7 x8 x9 y0 m = some o) (K : jsm (fun s => (∀ lv : jL, lv 0 = some (jR (some 76)) → lv 1 = some (jI x1) → lv 2 = some (jI x2) → lv 4 = some (jI x4) → lv 5 = some (jI x5) → lv 6 = some (jI x6) → lv 7 = some (jI x7) → lv 8 = some (jI x8) → lv 9 = some (jI s.1) → ey (mm_xt L xs) 6 284 191 lv [] (jhm b s.2) r)) (fun x => (∀ lv : jL, lv 0 = some (jR (some 76)) → lv 1 = some (jI x1) → lv 2 = some (jI x2) → lv 4 = some (jI x4) → lv 5 = some (jI x5) → lv 6 = some (jI x6) → ey (mm_xt L xs) 6 284 288 lv [] (jhm b x) r)) o) : ∀ lv : jL, lv 0 = some (jR (some 76)) → lv 1 = some (jI x1) → lv 2 = some (jI x2) → lv 4 = some (jI x4) → lv 5 = some (jI x5) → lv 6 = some (jI x6) → lv 7 = some (jI x7) → lv 8 = some (jI x8) → lv 9 = some (jI x9) → ey (mm_xt L xs) 6 284 239 lv [jI y0] (jhm b m) r := by
  intro lv f0 f1 f2 f4 f5 f6 f7 f8 f9
  unfold jd_284_b239 at e
  refine ey_istore (cd_284 rfl) mt_284 rfl ?_
  refine ey_iload (cd_284 rfl) (jup_pi (lv := lv) (j := 9) (v := jI y0) (z := x9) f9) ?_
  refine ey_iconst (cd_284 rfl) ?_
  by_cases q39 : 2 ≤ (jw x9)
  · rw [if_pos q39] at e
    refine ey_cge (cd_284 rfl) rfl rfl (show jw 2 = 2 from by decide) q39 ?_
    refine ey_iload (cd_284 rfl) f8 ?_
    refine ey_iconst (cd_284 rfl) ?_
    by_cases q40 : (jw x8) = 1
    · rw [if_pos q40] at e
      refine ey_nne (cd_284 rfl) rfl rfl (show jw 1 = 1 from by decide) (fun w => w q40) ?_
      exact jk_284_b262 hb h6 e K (jup lv 10 (jI y0)) f0 f1 f2 f4 f5 f6 f7 f8 (jup_pi (lv := lv) (j := 9) (v := jI y0) (z := x9) f9) rfl
    · rw [if_neg q40] at e
      refine ey_cne (cd_284 rfl) rfl rfl (show jw 1 = 1 from by decide) q40 ?_
      exact jk_284_b282 hb h6 e K (jup lv 10 (jI y0)) f0 f1 f2 f4 f5 f6 f7 f8 (jup_pi (lv := lv) (j := 9) (v := jI y0) (z := x9) f9)
  · rw [if_neg q39] at e
    refine ey_nge (cd_284 rfl) rfl rfl (show jw 2 = 2 from by decide) q39 ?_
    refine ey_iload (cd_284 rfl) f7 ?_
    refine ey_iconst (cd_284 rfl) ?_
    by_cases q45 : (jw x7) = 1
    · rw [if_pos q45] at e
      refine ey_nne (cd_284 rfl) rfl rfl (show jw 1 = 1 from by decide) (fun w => w q45) ?_
      refine ey_goto (cd_284 rfl) rfl ?_
      exact jk_284_b262 hb h6 e K (jup lv 10 (jI y0)) f0 f1 f2 f4 f5 f6 f7 f8 (jup_pi (lv := lv) (j := 9) (v := jI y0) (z := x9) f9) rfl
    · rw [if_neg q45] at e
      refine ey_cne (cd_284 rfl) rfl rfl (show jw 1 = 1 from by decide) q45 ?_
      exact jk_284_b282 hb h6 e K (jup lv 10 (jI y0)) f0 f1 f2 f4 f5 f6 f7 f8 (jup_pi (lv := lv) (j := 9) (v := jI y0) (z := x9) f9)
set_option maxRecDepth 100000 in
theorem jk_284_s191 {L : Nat} {xs : Nat → Int32} {b : jH} (hb : 152 ≤ b.1) (h6 : b.1 ≤ 1000000) {x1 : Int} {x2 : Int} {x4 : Int} {x5 : Int} {x6 : Int} {x7 : Int} {x8 : Int} {x9 : Int} {m : jM} {o : ((Int × jM) ⊕ jM)} {r : mm_R} (e : jd_284_s191 x1 x2 x4 x5 x6 x7 x8 x9 m = some o) (K : jsm (fun s => (∀ lv : jL, lv 0 = some (jR (some 76)) → lv 1 = some (jI x1) → lv 2 = some (jI x2) → lv 4 = some (jI x4) → lv 5 = some (jI x5) → lv 6 = some (jI x6) → lv 7 = some (jI x7) → lv 8 = some (jI x8) → lv 9 = some (jI s.1) → ey (mm_xt L xs) 6 284 191 lv [] (jhm b s.2) r)) (fun x => (∀ lv : jL, lv 0 = some (jR (some 76)) → lv 1 = some (jI x1) → lv 2 = some (jI x2) → lv 4 = some (jI x4) → lv 5 = some (jI x5) → lv 6 = some (jI x6) → ey (mm_xt L xs) 6 284 288 lv [] (jhm b x) r)) o) : ∀ lv : jL, lv 0 = some (jR (some 76)) → lv 1 = some (jI x1) → lv 2 = some (jI x2) → lv 4 = some (jI x4) → lv 5 = some (jI x5) → lv 6 = some (jI x6) → lv 7 = some (jI x7) → lv 8 = some (jI x8) → lv 9 = some (jI x9) → ey (mm_xt L xs) 6 284 191 lv [] (jhm b m) r := by
  intro lv f0 f1 f2 f4 f5 f6 f7 f8 f9
  unfold jd_284_s191 at e
  refine ey_iload (cd_284 rfl) f9 ?_
  refine ey_iconst (cd_284 rfl) ?_
  by_cases q38 : 4 ≤ (jw x9)
  · rw [if_pos q38] at e
    refine ey_cge (cd_284 rfl) rfl rfl (show jw 4 = 4 from by decide) q38 ?_
    cases e
    exact K lv f0 f1 f2 f4 f5 f6
  · rw [if_neg q38] at e
    refine ey_nge (cd_284 rfl) rfl rfl (show jw 4 = 4 from by decide) q38 ?_
    refine ey_iload (cd_284 rfl) f9 ?_
    have K46 : ∀ lv : jL, lv 0 = some (jR (some 76)) → lv 1 = some (jI x1) → lv 2 = some (jI x2) → lv 4 = some (jI x4) → lv 5 = some (jI x5) → lv 6 = some (jI x6) → lv 7 = some (jI x7) → lv 8 = some (jI x8) → lv 9 = some (jI x9) → ey (mm_xt L xs) 6 284 239 lv [jI (if (jw x9) = 0 then (m 76 62) else (if (jw x9) = 1 then (m 76 63) else (if (jw x9) = 2 then (m 76 64) else (m 76 65))))] (jhm b m) r := by
      intro lv g0 g1 g2 g4 g5 g6 g7 g8 g9
      exact jk_284_b239 hb h6 e K lv g0 g1 g2 g4 g5 g6 g7 g8 g9
    by_cases q47 : (jw x9) = 0
    · refine ey_yne (cd_284 rfl) rfl rfl (fun w => w q47) ?_
      refine ey_aload_n (cd_284 rfl) f0 ?_
      refine ey_getf_i (z := (m 76 62)) (cd_284 rfl) mt_284 rfl rfl rfl (jhm_gi hb 62) ?_
      refine ey_goto (cd_284 rfl) rfl ?_
      exact ey_rs (s0 := [jI (m 76 62)]) (s1 := [jI (if (jw x9) = 0 then (m 76 62) else (if (jw x9) = 1 then (m 76 63) else (if (jw x9) = 2 then (m 76 64) else (m 76 65))))]) (by rw [show ((if (jw x9) = 0 then (m 76 62) else (if (jw x9) = 1 then (m 76 63) else (if (jw x9) = 2 then (m 76 64) else (m 76 65)))) : Int) = (m 76 62) from (if_pos q47)]) (K46 lv f0 f1 f2 f4 f5 f6 f7 f8 f9)
    · refine ey_zne (cd_284 rfl) rfl rfl q47 ?_
      refine ey_iload (cd_284 rfl) f9 ?_
      refine ey_iconst (cd_284 rfl) ?_
      by_cases q48 : (jw x9) = 1
      · refine ey_nne (cd_284 rfl) rfl rfl (show jw 1 = 1 from by decide) (fun w => w q48) ?_
        refine ey_aload_n (cd_284 rfl) f0 ?_
        refine ey_getf_i (z := (m 76 63)) (cd_284 rfl) mt_284 rfl rfl rfl (jhm_gi hb 63) ?_
        refine ey_goto (cd_284 rfl) rfl ?_
        exact ey_rs (s0 := [jI (m 76 63)]) (s1 := [jI (if (jw x9) = 0 then (m 76 62) else (if (jw x9) = 1 then (m 76 63) else (if (jw x9) = 2 then (m 76 64) else (m 76 65))))]) (by rw [show ((if (jw x9) = 0 then (m 76 62) else (if (jw x9) = 1 then (m 76 63) else (if (jw x9) = 2 then (m 76 64) else (m 76 65)))) : Int) = (m 76 63) from ((if_neg q47).trans (if_pos q48))]) (K46 lv f0 f1 f2 f4 f5 f6 f7 f8 f9)
      · refine ey_cne (cd_284 rfl) rfl rfl (show jw 1 = 1 from by decide) q48 ?_
        refine ey_iload (cd_284 rfl) f9 ?_
        refine ey_iconst (cd_284 rfl) ?_
        by_cases q49 : (jw x9) = 2
        · refine ey_nne (cd_284 rfl) rfl rfl (show jw 2 = 2 from by decide) (fun w => w q49) ?_
          refine ey_aload_n (cd_284 rfl) f0 ?_
          refine ey_getf_i (z := (m 76 64)) (cd_284 rfl) mt_284 rfl rfl rfl (jhm_gi hb 64) ?_
          refine ey_goto (cd_284 rfl) rfl ?_
          exact ey_rs (s0 := [jI (m 76 64)]) (s1 := [jI (if (jw x9) = 0 then (m 76 62) else (if (jw x9) = 1 then (m 76 63) else (if (jw x9) = 2 then (m 76 64) else (m 76 65))))]) (by rw [show ((if (jw x9) = 0 then (m 76 62) else (if (jw x9) = 1 then (m 76 63) else (if (jw x9) = 2 then (m 76 64) else (m 76 65)))) : Int) = (m 76 64) from ((if_neg q47).trans ((if_neg q48).trans (if_pos q49)))]) (K46 lv f0 f1 f2 f4 f5 f6 f7 f8 f9)
        · refine ey_cne (cd_284 rfl) rfl rfl (show jw 2 = 2 from by decide) q49 ?_
          refine ey_aload_n (cd_284 rfl) f0 ?_
          refine ey_getf_i (z := (m 76 65)) (cd_284 rfl) mt_284 rfl rfl rfl (jhm_gi hb 65) ?_
          exact ey_rs (s0 := [jI (m 76 65)]) (s1 := [jI (if (jw x9) = 0 then (m 76 62) else (if (jw x9) = 1 then (m 76 63) else (if (jw x9) = 2 then (m 76 64) else (m 76 65))))]) (by rw [show ((if (jw x9) = 0 then (m 76 62) else (if (jw x9) = 1 then (m 76 63) else (if (jw x9) = 2 then (m 76 64) else (m 76 65)))) : Int) = (m 76 65) from ((if_neg q47).trans ((if_neg q48).trans (if_neg q49)))]) (K46 lv f0 f1 f2 f4 f5 f6 f7 f8 f9)
theorem jk_284_l191 {L : Nat} {xs : Nat → Int32} {b : jH} (hb : 152 ≤ b.1) (h6 : b.1 ≤ 1000000) {x1 : Int} {x2 : Int} {x4 : Int} {x5 : Int} {x6 : Int} {x7 : Int} {x8 : Int} {x9 : Int} {m : jM} {x : jM} {r : mm_R} (e : jd_284_l191 x1 x2 x4 x5 x6 x7 x8 x9 m = some x) (K : (∀ lv : jL, lv 0 = some (jR (some 76)) → lv 1 = some (jI x1) → lv 2 = some (jI x2) → lv 4 = some (jI x4) → lv 5 = some (jI x5) → lv 6 = some (jI x6) → ey (mm_xt L xs) 6 284 288 lv [] (jhm b x) r)) : ∀ lv : jL, lv 0 = some (jR (some 76)) → lv 1 = some (jI x1) → lv 2 = some (jI x2) → lv 4 = some (jI x4) → lv 5 = some (jI x5) → lv 6 = some (jI x6) → lv 7 = some (jI x7) → lv 8 = some (jI x8) → lv 9 = some (jI x9) → ey (mm_xt L xs) 6 284 191 lv [] (jhm b m) r := by
  unfold jd_284_l191 at e
  exact jlp_ok2 (P := fun s => ∀ lv : jL, lv 0 = some (jR (some 76)) → lv 1 = some (jI x1) → lv 2 = some (jI x2) → lv 4 = some (jI x4) → lv 5 = some (jI x5) → lv 6 = some (jI x6) → lv 7 = some (jI x7) → lv 8 = some (jI x8) → lv 9 = some (jI s.1) → ey (mm_xt L xs) 6 284 191 lv [] (jhm b s.2) r) (Q := fun x => (∀ lv : jL, lv 0 = some (jR (some 76)) → lv 1 = some (jI x1) → lv 2 = some (jI x2) → lv 4 = some (jI x4) → lv 5 = some (jI x5) → lv 6 = some (jI x6) → ey (mm_xt L xs) 6 284 288 lv [] (jhm b x) r)) (fun s q hq hk => jk_284_s191 hb h6 hq hk) jfu _ x e K
set_option maxRecDepth 100000 in
theorem jk_284_s317 {L : Nat} {xs : Nat → Int32} {b : jH} (hb : 152 ≤ b.1) (h6 : b.1 ≤ 1000000) {x1 : Int} {x2 : Int} {x4 : Int} {x5 : Int} {x6 : Int} {x9 : Int} {m : jM} {o : ((Int × jM) ⊕ jM)} {r : mm_R} (e : jd_284_s317 x1 x2 x4 x5 x6 x9 m = some o) (K : jsm (fun s => (∀ lv : jL, lv 0 = some (jR (some 76)) → lv 1 = some (jI x1) → lv 2 = some (jI x2) → lv 4 = some (jI x4) → lv 5 = some (jI x5) → lv 6 = some (jI x6) → lv 9 = some (jI s.1) → ey (mm_xt L xs) 6 284 317 lv [] (jhm b s.2) r)) (fun x => (∀ lv : jL, lv 0 = some (jR (some 76)) → lv 1 = some (jI x1) → lv 2 = some (jI x2) → lv 4 = some (jI x4) → lv 5 = some (jI x5) → ey (mm_xt L xs) 6 284 345 lv [] (jhm b x) r)) o) : ∀ lv : jL, lv 0 = some (jR (some 76)) → lv 1 = some (jI x1) → lv 2 = some (jI x2) → lv 4 = some (jI x4) → lv 5 = some (jI x5) → lv 6 = some (jI x6) → lv 9 = some (jI x9) → ey (mm_xt L xs) 6 284 317 lv [] (jhm b m) r := by
  intro lv f0 f1 f2 f4 f5 f6 f9
  unfold jd_284_s317 at e
  refine ey_iload (cd_284 rfl) f9 ?_
  refine ey_bipush (cd_284 rfl) (by decide) ?_
  by_cases q54 : 6 ≤ (jw x9)
  · rw [if_pos q54] at e
    refine ey_cge (cd_284 rfl) rfl rfl (show jw 6 = 6 from by decide) q54 ?_
    cases e
    exact K lv f0 f1 f2 f4 f5
  · rw [if_neg q54] at e
    refine ey_nge (cd_284 rfl) rfl rfl (show jw 6 = 6 from by decide) q54 ?_
    refine ey_iload (cd_284 rfl) f6 ?_
    by_cases q55 : (jw x6) = 0
    · rw [if_pos q55] at e
      refine ey_yne (cd_284 rfl) rfl rfl (fun w => w q55) ?_
      refine ey_aload_n (cd_284 rfl) f0 ?_
      refine ey_iload_n (cd_284 rfl) f1 ?_
      refine ey_iload_n (cd_284 rfl) f2 ?_
      refine ey_iload (cd_284 rfl) f9 ?_
      refine ey_iload (cd_284 rfl) f4 ?_
      obtain ⟨m56, e57, e⟩ := jbind e
      refine ey_cv (s0 := [jI x4, jI x9, jI x2, jI x1, jR (some 76)]) (s1 := []) (st' := []) (cd_284 rfl) mt_284 mt_282 rfl rfl rfl (jhm_is hb) rfl (jsml_s rfl) rfl (mm_Runs.up (d := 5) (by decide) (ok_282 hb h6 e57)) ?_
      refine ey_iinc (cd_284 rfl) mt_284 rfl f9 ?_
      refine ey_goto (cd_284 rfl) rfl ?_
      cases e
      exact K (jup lv 9 (jI (x9 + 1))) f0 f1 f2 f4 f5 f6 rfl
    · rw [if_neg q55] at e
      refine ey_zne (cd_284 rfl) rfl rfl q55 ?_
      cases e
      exact K lv f0 f1 f2 f4 f5
theorem jk_284_l317 {L : Nat} {xs : Nat → Int32} {b : jH} (hb : 152 ≤ b.1) (h6 : b.1 ≤ 1000000) {x1 : Int} {x2 : Int} {x4 : Int} {x5 : Int} {x6 : Int} {x9 : Int} {m : jM} {x : jM} {r : mm_R} (e : jd_284_l317 x1 x2 x4 x5 x6 x9 m = some x) (K : (∀ lv : jL, lv 0 = some (jR (some 76)) → lv 1 = some (jI x1) → lv 2 = some (jI x2) → lv 4 = some (jI x4) → lv 5 = some (jI x5) → ey (mm_xt L xs) 6 284 345 lv [] (jhm b x) r)) : ∀ lv : jL, lv 0 = some (jR (some 76)) → lv 1 = some (jI x1) → lv 2 = some (jI x2) → lv 4 = some (jI x4) → lv 5 = some (jI x5) → lv 6 = some (jI x6) → lv 9 = some (jI x9) → ey (mm_xt L xs) 6 284 317 lv [] (jhm b m) r := by
  unfold jd_284_l317 at e
  exact jlp_ok2 (P := fun s => ∀ lv : jL, lv 0 = some (jR (some 76)) → lv 1 = some (jI x1) → lv 2 = some (jI x2) → lv 4 = some (jI x4) → lv 5 = some (jI x5) → lv 6 = some (jI x6) → lv 9 = some (jI s.1) → ey (mm_xt L xs) 6 284 317 lv [] (jhm b s.2) r) (Q := fun x => (∀ lv : jL, lv 0 = some (jR (some 76)) → lv 1 = some (jI x1) → lv 2 = some (jI x2) → lv 4 = some (jI x4) → lv 5 = some (jI x5) → ey (mm_xt L xs) 6 284 345 lv [] (jhm b x) r)) (fun s q hq hk => jk_284_s317 hb h6 hq hk) jfu _ x e K
set_option maxRecDepth 100000 in
theorem jk_284_s375 {L : Nat} {xs : Nat → Int32} {b : jH} (hb : 152 ≤ b.1) (h6 : b.1 ≤ 1000000) {x1 : Int} {x2 : Int} {x5 : Int} {x11 : Int} {x9 : Int} {x12 : Int} {m : jM} {o : ((Int × Int) ⊕ Int)} {r : mm_R} (e : jd_284_s375 x1 x2 x5 x11 x9 x12 m = some o) (K : jsm (fun s => (∀ lv : jL, lv 0 = some (jR (some 76)) → lv 1 = some (jI x1) → lv 2 = some (jI x2) → lv 5 = some (jI x5) → lv 9 = some (jJ s.1) → lv 11 = some (jI x11) → lv 12 = some (jI s.2) → ey (mm_xt L xs) 6 284 375 lv [] (jhm b m) r)) (fun x => (∀ lv : jL, lv 0 = some (jR (some 76)) → lv 1 = some (jI x1) → lv 2 = some (jI x2) → lv 5 = some (jI x5) → lv 9 = some (jJ x) → lv 11 = some (jI x11) → ey (mm_xt L xs) 6 284 454 lv [] (jhm b m) r)) o) : ∀ lv : jL, lv 0 = some (jR (some 76)) → lv 1 = some (jI x1) → lv 2 = some (jI x2) → lv 5 = some (jI x5) → lv 9 = some (jJ x9) → lv 11 = some (jI x11) → lv 12 = some (jI x12) → ey (mm_xt L xs) 6 284 375 lv [] (jhm b m) r := by
  intro lv f0 f1 f2 f5 f9 f11 f12
  unfold jd_284_s375 at e
  refine ey_iload (cd_284 rfl) f12 ?_
  refine ey_iload (cd_284 rfl) f11 ?_
  refine ey_cs (s0 := [jI x11, jI x12]) (s1 := [jI x12]) (st' := [jI (jd_243 x11), jI x12]) (cd_284 rfl) mt_284 mt_243 rfl (by decide) rfl rfl (jsml_s rfl) rfl (mm_Runs.up (d := 1) (by decide) (ok_243 )) ?_
  refine ey_iload (cd_284 rfl) f11 ?_
  refine ey_cs (s0 := [jI x11, jI (jd_243 x11), jI x12]) (s1 := [jI (jd_243 x11), jI x12]) (st' := [jI (jd_243 x11), jI (jd_243 x11), jI x12]) (cd_284 rfl) mt_284 mt_243 rfl (by decide) rfl rfl (jsml_s rfl) rfl (mm_Runs.up (d := 1) (by decide) (ok_243 )) ?_
  refine ey_imul (cd_284 rfl) ?_
  by_cases q61 : (jw ((jd_243 x11) * (jd_243 x11))) ≤ (jw x12)
  · rw [if_pos q61] at e
    refine ey_cge (cd_284 rfl) rfl rfl rfl q61 ?_
    cases e
    exact K lv f0 f1 f2 f5 f9 f11
  · rw [if_neg q61] at e
    refine ey_nge (cd_284 rfl) rfl rfl rfl q61 ?_
    refine ey_iload (cd_284 rfl) f11 ?_
    refine ey_cs (s0 := [jI x11]) (s1 := []) (st' := [jI (jd_244 x11)]) (cd_284 rfl) mt_284 mt_244 rfl (by decide) rfl rfl (jsml_s rfl) rfl (mm_Runs.up (d := 1) (by decide) (ok_244 )) ?_
    refine ey_iload (cd_284 rfl) f12 ?_
    refine ey_iadd (cd_284 rfl) ?_
    refine ey_istore (cd_284 rfl) mt_284 rfl ?_
    refine ey_aload_n (cd_284 rfl) f0 ?_
    refine ey_getf_r (cd_284 rfl) mt_284 rfl rfl rfl (jhm_gr (q := 114) hb rfl) ?_
    refine ey_iload (cd_284 rfl) rfl ?_
    obtain ⟨v62, e63, e⟩ := jbind e
    refine ey_iald (cd_284 rfl) (jhm_ai hb h6 (by decide) rfl e63) ?_
    refine ey_aload_n (cd_284 rfl) f0 ?_
    refine ey_getf_r (cd_284 rfl) mt_284 rfl rfl rfl (jhm_gr (q := 115) hb rfl) ?_
    refine ey_iload (cd_284 rfl) rfl ?_
    obtain ⟨v64, e65, e⟩ := jbind e
    refine ey_iald (cd_284 rfl) (jhm_ai hb h6 (by decide) rfl e65) ?_
    refine ey_iadd (cd_284 rfl) ?_
    refine ey_i2l (cd_284 rfl) ?_
    refine ey_iconst (cd_284 rfl) ?_
    refine ey_sipush (cd_284 rfl) (by decide) ?_
    refine ey_cs (s0 := [jI 255, jI 0, jJ (jw (v62 + v64))]) (s1 := []) (st' := [jI (jd_205 (jw (v62 + v64)) 0 255)]) (cd_284 rfl) mt_284 mt_205 rfl (by decide) rfl rfl (jsml_s rfl) rfl (mm_Runs.up (d := 1) (by decide) (ok_205 )) ?_
    refine ey_aload_n (cd_284 rfl) f0 ?_
    refine ey_iload_n (cd_284 rfl) f1 ?_
    refine ey_iload_n (cd_284 rfl) f2 ?_
    refine ey_iload (cd_284 rfl) f11 ?_
    refine ey_iload (cd_284 rfl) (jup_pi (lv := lv) (j := 12) (v := jI ((jd_244 x11) + x12)) (z := x12) f12) ?_
    obtain ⟨v66, e67, e⟩ := jbind e
    refine ey_cv (s0 := [jI x12, jI x11, jI x2, jI x1, jR (some 76), jI (jd_205 (jw (v62 + v64)) 0 255)]) (s1 := [jI (jd_205 (jw (v62 + v64)) 0 255)]) (st' := [jI v66, jI (jd_205 (jw (v62 + v64)) 0 255)]) (cd_284 rfl) mt_284 mt_280 rfl rfl rfl (jhm_is hb) rfl (jsml_s rfl) rfl (mm_Runs.up (d := 3) (by decide) (ok_280 hb h6 e67)) ?_
    refine ey_isub (cd_284 rfl) ?_
    obtain ⟨z68, e69, e⟩ := jbind e
    refine ey_rs (s0 := [jI ((jd_205 (jw (v62 + v64)) 0 255) - v66)]) (s1 := [jI z68]) (by rw [show ((jd_205 (jw (v62 + v64)) 0 255) - v66) = z68 from Option.some.inj e69]) ?_
    refine ey_istore (cd_284 rfl) mt_284 rfl ?_
    refine ey_lload (cd_284 rfl) f9 ?_
    refine ey_iload (cd_284 rfl) rfl ?_
    refine ey_iload (cd_284 rfl) rfl ?_
    refine ey_imul (cd_284 rfl) ?_
    refine ey_i2l (cd_284 rfl) ?_
    refine ey_ladd (cd_284 rfl) ?_
    refine ey_lstore (cd_284 rfl) mt_284 rfl ?_
    refine ey_iinc (cd_284 rfl) mt_284 rfl (jup2_o rfl (jup_o rfl (jup_pi (lv := lv) (j := 12) (v := jI ((jd_244 x11) + x12)) (z := x12) f12))) ?_
    refine ey_goto (cd_284 rfl) rfl ?_
    cases e
    exact K (jup (jup2 (jup (jup lv 13 (jI ((jd_244 x11) + x12))) 14 (jI z68)) 9 (jJ (x9 + (jw (z68 * z68))))) 12 (jI (x12 + 1))) f0 f1 f2 f5 rfl (jup_pi (lv := (jup2 (jup (jup lv 13 (jI ((jd_244 x11) + x12))) 14 (jI z68)) 9 (jJ (x9 + (jw (z68 * z68)))))) (j := 11) (v := jI (x12 + 1)) (z := x11) f11) rfl
theorem jk_284_l375 {L : Nat} {xs : Nat → Int32} {b : jH} (hb : 152 ≤ b.1) (h6 : b.1 ≤ 1000000) {x1 : Int} {x2 : Int} {x5 : Int} {x11 : Int} {x9 : Int} {x12 : Int} {m : jM} {x : Int} {r : mm_R} (e : jd_284_l375 x1 x2 x5 x11 x9 x12 m = some x) (K : (∀ lv : jL, lv 0 = some (jR (some 76)) → lv 1 = some (jI x1) → lv 2 = some (jI x2) → lv 5 = some (jI x5) → lv 9 = some (jJ x) → lv 11 = some (jI x11) → ey (mm_xt L xs) 6 284 454 lv [] (jhm b m) r)) : ∀ lv : jL, lv 0 = some (jR (some 76)) → lv 1 = some (jI x1) → lv 2 = some (jI x2) → lv 5 = some (jI x5) → lv 9 = some (jJ x9) → lv 11 = some (jI x11) → lv 12 = some (jI x12) → ey (mm_xt L xs) 6 284 375 lv [] (jhm b m) r := by
  unfold jd_284_l375 at e
  exact jlp_ok2 (P := fun s => ∀ lv : jL, lv 0 = some (jR (some 76)) → lv 1 = some (jI x1) → lv 2 = some (jI x2) → lv 5 = some (jI x5) → lv 9 = some (jJ s.1) → lv 11 = some (jI x11) → lv 12 = some (jI s.2) → ey (mm_xt L xs) 6 284 375 lv [] (jhm b m) r) (Q := fun x => (∀ lv : jL, lv 0 = some (jR (some 76)) → lv 1 = some (jI x1) → lv 2 = some (jI x2) → lv 5 = some (jI x5) → lv 9 = some (jJ x) → lv 11 = some (jI x11) → ey (mm_xt L xs) 6 284 454 lv [] (jhm b m) r)) (fun s q hq hk => jk_284_s375 hb h6 hq hk) jfu _ x e K
set_option maxRecDepth 100000 in
theorem jk_284_s366 {L : Nat} {xs : Nat → Int32} {b : jH} (hb : 152 ≤ b.1) (h6 : b.1 ≤ 1000000) {x1 : Int} {x2 : Int} {x5 : Int} {x9 : Int} {x11 : Int} {m : jM} {o : ((Int × Int) ⊕ Int)} {r : mm_R} (e : jd_284_s366 x1 x2 x5 x9 x11 m = some o) (K : jsm (fun s => (∀ lv : jL, lv 0 = some (jR (some 76)) → lv 1 = some (jI x1) → lv 2 = some (jI x2) → lv 5 = some (jI x5) → lv 9 = some (jJ s.1) → lv 11 = some (jI s.2) → ey (mm_xt L xs) 6 284 366 lv [] (jhm b m) r)) (fun x => (∀ lv : jL, lv 0 = some (jR (some 76)) → lv 1 = some (jI x1) → lv 2 = some (jI x2) → lv 5 = some (jI x5) → lv 9 = some (jJ x) → ey (mm_xt L xs) 6 284 460 lv [] (jhm b m) r)) o) : ∀ lv : jL, lv 0 = some (jR (some 76)) → lv 1 = some (jI x1) → lv 2 = some (jI x2) → lv 5 = some (jI x5) → lv 9 = some (jJ x9) → lv 11 = some (jI x11) → ey (mm_xt L xs) 6 284 366 lv [] (jhm b m) r := by
  intro lv f0 f1 f2 f5 f9 f11
  unfold jd_284_s366 at e
  refine ey_iload (cd_284 rfl) f11 ?_
  refine ey_iconst (cd_284 rfl) ?_
  by_cases q60 : 3 ≤ (jw x11)
  · rw [if_pos q60] at e
    refine ey_cge (cd_284 rfl) rfl rfl (show jw 3 = 3 from by decide) q60 ?_
    cases e
    exact K lv f0 f1 f2 f5 f9
  · rw [if_neg q60] at e
    refine ey_nge (cd_284 rfl) rfl rfl (show jw 3 = 3 from by decide) q60 ?_
    refine ey_iconst (cd_284 rfl) ?_
    refine ey_istore (cd_284 rfl) mt_284 rfl ?_
    obtain ⟨x70, e71, e⟩ := jbind e
    refine jk_284_l375 hb h6 e71 ?_ (jup lv 12 (jI 0)) f0 f1 f2 f5 f9 (jup_pi (lv := lv) (j := 11) (v := jI 0) (z := x11) f11) rfl
    intro lv g0 g1 g2 g5 g9 g11
    refine ey_iinc (cd_284 rfl) mt_284 rfl g11 ?_
    refine ey_goto (cd_284 rfl) rfl ?_
    cases e
    exact K (jup lv 11 (jI (x11 + 1))) g0 g1 g2 g5 g9 rfl
theorem jk_284_l366 {L : Nat} {xs : Nat → Int32} {b : jH} (hb : 152 ≤ b.1) (h6 : b.1 ≤ 1000000) {x1 : Int} {x2 : Int} {x5 : Int} {x9 : Int} {x11 : Int} {m : jM} {x : Int} {r : mm_R} (e : jd_284_l366 x1 x2 x5 x9 x11 m = some x) (K : (∀ lv : jL, lv 0 = some (jR (some 76)) → lv 1 = some (jI x1) → lv 2 = some (jI x2) → lv 5 = some (jI x5) → lv 9 = some (jJ x) → ey (mm_xt L xs) 6 284 460 lv [] (jhm b m) r)) : ∀ lv : jL, lv 0 = some (jR (some 76)) → lv 1 = some (jI x1) → lv 2 = some (jI x2) → lv 5 = some (jI x5) → lv 9 = some (jJ x9) → lv 11 = some (jI x11) → ey (mm_xt L xs) 6 284 366 lv [] (jhm b m) r := by
  unfold jd_284_l366 at e
  exact jlp_ok2 (P := fun s => ∀ lv : jL, lv 0 = some (jR (some 76)) → lv 1 = some (jI x1) → lv 2 = some (jI x2) → lv 5 = some (jI x5) → lv 9 = some (jJ s.1) → lv 11 = some (jI s.2) → ey (mm_xt L xs) 6 284 366 lv [] (jhm b m) r) (Q := fun x => (∀ lv : jL, lv 0 = some (jR (some 76)) → lv 1 = some (jI x1) → lv 2 = some (jI x2) → lv 5 = some (jI x5) → lv 9 = some (jJ x) → ey (mm_xt L xs) 6 284 460 lv [] (jhm b m) r)) (fun s q hq hk => jk_284_s366 hb h6 hq hk) jfu _ x e K
set_option maxRecDepth 100000 in
theorem jk_284_s489 {L : Nat} {xs : Nat → Int32} {b : jH} (hb : 152 ≤ b.1) (h6 : b.1 ≤ 1000000) {x1 : Int} {x2 : Int} {x5 : Int} {x11 : Int} {m : jM} {o : ((Int × jM) ⊕ jM)} {r : mm_R} (e : jd_284_s489 x1 x2 x5 x11 m = some o) (K : jsm (fun s => (∀ lv : jL, lv 0 = some (jR (some 76)) → lv 1 = some (jI x1) → lv 2 = some (jI x2) → lv 5 = some (jI x5) → lv 11 = some (jI s.1) → ey (mm_xt L xs) 6 284 489 lv [] (jhm b s.2) r)) (fun x => (∀ lv : jL, lv 0 = some (jR (some 76)) → lv 1 = some (jI x1) → lv 2 = some (jI x2) → lv 5 = some (jI x5) → ey (mm_xt L xs) 6 284 532 lv [] (jhm b x) r)) o) : ∀ lv : jL, lv 0 = some (jR (some 76)) → lv 1 = some (jI x1) → lv 2 = some (jI x2) → lv 5 = some (jI x5) → lv 11 = some (jI x11) → ey (mm_xt L xs) 6 284 489 lv [] (jhm b m) r := by
  intro lv f0 f1 f2 f5 f11
  unfold jd_284_s489 at e
  refine ey_iload (cd_284 rfl) f11 ?_
  refine ey_bipush (cd_284 rfl) (by decide) ?_
  by_cases q77 : 96 ≤ (jw x11)
  · rw [if_pos q77] at e
    refine ey_cge (cd_284 rfl) rfl rfl (show jw 96 = 96 from by decide) q77 ?_
    cases e
    exact K lv f0 f1 f2 f5
  · rw [if_neg q77] at e
    refine ey_nge (cd_284 rfl) rfl rfl (show jw 96 = 96 from by decide) q77 ?_
    refine ey_aload_n (cd_284 rfl) f0 ?_
    refine ey_getf_r (cd_284 rfl) mt_284 rfl rfl rfl (jhm_gr (q := 122) hb rfl) ?_
    refine ey_iload (cd_284 rfl) f11 ?_
    refine ey_aload_n (cd_284 rfl) f0 ?_
    refine ey_getf_r (cd_284 rfl) mt_284 rfl rfl rfl (jhm_gr (q := 114) hb rfl) ?_
    refine ey_iload (cd_284 rfl) f11 ?_
    obtain ⟨v78, e79, e⟩ := jbind e
    refine ey_iald (cd_284 rfl) (jhm_ai hb h6 (by decide) rfl e79) ?_
    refine ey_aload_n (cd_284 rfl) f0 ?_
    refine ey_getf_r (cd_284 rfl) mt_284 rfl rfl rfl (jhm_gr (q := 115) hb rfl) ?_
    refine ey_iload (cd_284 rfl) f11 ?_
    obtain ⟨v80, e81, e⟩ := jbind e
    refine ey_iald (cd_284 rfl) (jhm_ai hb h6 (by decide) rfl e81) ?_
    refine ey_iadd (cd_284 rfl) ?_
    refine ey_i2l (cd_284 rfl) ?_
    refine ey_iconst (cd_284 rfl) ?_
    refine ey_sipush (cd_284 rfl) (by decide) ?_
    refine ey_cs (s0 := [jI 255, jI 0, jJ (jw (v78 + v80)), jI x11, jR (some 122)]) (s1 := [jI x11, jR (some 122)]) (st' := [jI (jd_205 (jw (v78 + v80)) 0 255), jI x11, jR (some 122)]) (cd_284 rfl) mt_284 mt_205 rfl (by decide) rfl rfl (jsml_s rfl) rfl (mm_Runs.up (d := 1) (by decide) (ok_205 )) ?_
    obtain ⟨m82, e83, e⟩ := jbind e
    refine ey_iast (cd_284 rfl) (jhm_ta hb (by decide) rfl e83) ?_
    refine ey_iinc (cd_284 rfl) mt_284 rfl f11 ?_
    refine ey_goto (cd_284 rfl) rfl ?_
    cases e
    exact K (jup lv 11 (jI (x11 + 1))) f0 f1 f2 f5 rfl
theorem jk_284_l489 {L : Nat} {xs : Nat → Int32} {b : jH} (hb : 152 ≤ b.1) (h6 : b.1 ≤ 1000000) {x1 : Int} {x2 : Int} {x5 : Int} {x11 : Int} {m : jM} {x : jM} {r : mm_R} (e : jd_284_l489 x1 x2 x5 x11 m = some x) (K : (∀ lv : jL, lv 0 = some (jR (some 76)) → lv 1 = some (jI x1) → lv 2 = some (jI x2) → lv 5 = some (jI x5) → ey (mm_xt L xs) 6 284 532 lv [] (jhm b x) r)) : ∀ lv : jL, lv 0 = some (jR (some 76)) → lv 1 = some (jI x1) → lv 2 = some (jI x2) → lv 5 = some (jI x5) → lv 11 = some (jI x11) → ey (mm_xt L xs) 6 284 489 lv [] (jhm b m) r := by
  unfold jd_284_l489 at e
  exact jlp_ok2 (P := fun s => ∀ lv : jL, lv 0 = some (jR (some 76)) → lv 1 = some (jI x1) → lv 2 = some (jI x2) → lv 5 = some (jI x5) → lv 11 = some (jI s.1) → ey (mm_xt L xs) 6 284 489 lv [] (jhm b s.2) r) (Q := fun x => (∀ lv : jL, lv 0 = some (jR (some 76)) → lv 1 = some (jI x1) → lv 2 = some (jI x2) → lv 5 = some (jI x5) → ey (mm_xt L xs) 6 284 532 lv [] (jhm b x) r)) (fun s q hq hk => jk_284_s489 hb h6 hq hk) jfu _ x e K
set_option maxRecDepth 100000 in
theorem jk_284_s548 {L : Nat} {xs : Nat → Int32} {b : jH} (hb : 152 ≤ b.1) (h6 : b.1 ≤ 1000000) {x1 : Int} {x2 : Int} {x5 : Int} {x11 : Int} {m : jM} {o : ((Int × jM) ⊕ jM)} {r : mm_R} (e : jd_284_s548 x1 x2 x5 x11 m = some o) (K : jsm (fun s => (∀ lv : jL, lv 0 = some (jR (some 76)) → lv 1 = some (jI x1) → lv 2 = some (jI x2) → lv 5 = some (jI x5) → lv 11 = some (jI s.1) → ey (mm_xt L xs) 6 284 548 lv [] (jhm b s.2) r)) (fun x => (∀ lv : jL, lv 0 = some (jR (some 76)) → lv 5 = some (jI x5) → ey (mm_xt L xs) 6 284 576 lv [] (jhm b x) r)) o) : ∀ lv : jL, lv 0 = some (jR (some 76)) → lv 1 = some (jI x1) → lv 2 = some (jI x2) → lv 5 = some (jI x5) → lv 11 = some (jI x11) → ey (mm_xt L xs) 6 284 548 lv [] (jhm b m) r := by
  intro lv f0 f1 f2 f5 f11
  unfold jd_284_s548 at e
  refine ey_iload (cd_284 rfl) f11 ?_
  refine ey_bipush (cd_284 rfl) (by decide) ?_
  by_cases q88 : 7 ≤ (jw x11)
  · rw [if_pos q88] at e
    refine ey_cge (cd_284 rfl) rfl rfl (show jw 7 = 7 from by decide) q88 ?_
    cases e
    exact K lv f0 f5
  · rw [if_neg q88] at e
    refine ey_nge (cd_284 rfl) rfl rfl (show jw 7 = 7 from by decide) q88 ?_
    refine ey_aload_n (cd_284 rfl) f0 ?_
    refine ey_getf_r (cd_284 rfl) mt_284 rfl rfl rfl (jhm_gr (q := 123) hb rfl) ?_
    refine ey_iload (cd_284 rfl) f11 ?_
    refine ey_aload_n (cd_284 rfl) f0 ?_
    refine ey_iload_n (cd_284 rfl) f1 ?_
    refine ey_iload_n (cd_284 rfl) f2 ?_
    refine ey_iload (cd_284 rfl) f11 ?_
    obtain ⟨v89, e90, e⟩ := jbind e
    refine ey_cv (s0 := [jI x11, jI x2, jI x1, jR (some 76), jI x11, jR (some 123)]) (s1 := [jI x11, jR (some 123)]) (st' := [jI v89, jI x11, jR (some 123)]) (cd_284 rfl) mt_284 mt_259 rfl rfl rfl (jhm_is hb) rfl (jsml_s rfl) rfl (mm_Runs.up (d := 1) (by decide) (ok_259 hb h6 e90)) ?_
    obtain ⟨m91, e92, e⟩ := jbind e
    refine ey_iast (cd_284 rfl) (jhm_ta hb (by decide) rfl e92) ?_
    refine ey_iinc (cd_284 rfl) mt_284 rfl f11 ?_
    refine ey_goto (cd_284 rfl) rfl ?_
    cases e
    exact K (jup lv 11 (jI (x11 + 1))) f0 f1 f2 f5 rfl
theorem jk_284_l548 {L : Nat} {xs : Nat → Int32} {b : jH} (hb : 152 ≤ b.1) (h6 : b.1 ≤ 1000000) {x1 : Int} {x2 : Int} {x5 : Int} {x11 : Int} {m : jM} {x : jM} {r : mm_R} (e : jd_284_l548 x1 x2 x5 x11 m = some x) (K : (∀ lv : jL, lv 0 = some (jR (some 76)) → lv 5 = some (jI x5) → ey (mm_xt L xs) 6 284 576 lv [] (jhm b x) r)) : ∀ lv : jL, lv 0 = some (jR (some 76)) → lv 1 = some (jI x1) → lv 2 = some (jI x2) → lv 5 = some (jI x5) → lv 11 = some (jI x11) → ey (mm_xt L xs) 6 284 548 lv [] (jhm b m) r := by
  unfold jd_284_l548 at e
  exact jlp_ok2 (P := fun s => ∀ lv : jL, lv 0 = some (jR (some 76)) → lv 1 = some (jI x1) → lv 2 = some (jI x2) → lv 5 = some (jI x5) → lv 11 = some (jI s.1) → ey (mm_xt L xs) 6 284 548 lv [] (jhm b s.2) r) (Q := fun x => (∀ lv : jL, lv 0 = some (jR (some 76)) → lv 5 = some (jI x5) → ey (mm_xt L xs) 6 284 576 lv [] (jhm b x) r)) (fun s q hq hk => jk_284_s548 hb h6 hq hk) jfu _ x e K
set_option maxRecDepth 100000 in
theorem jk_284_s590 {L : Nat} {xs : Nat → Int32} {b : jH} (hb : 152 ≤ b.1) (h6 : b.1 ≤ 1000000) {x5 : Int} {x11 : Int} {m : jM} {o : ((Int × jM) ⊕ jM)} {r : mm_R} (e : jd_284_s590 x5 x11 m = some o) (K : jsm (fun s => (∀ lv : jL, lv 0 = some (jR (some 76)) → lv 5 = some (jI x5) → lv 11 = some (jI s.1) → ey (mm_xt L xs) 6 284 590 lv [] (jhm b s.2) r)) (fun x => (∀ lv : jL, ey (mm_xt L xs) 6 284 622 lv [] (jhm b x) r)) o) : ∀ lv : jL, lv 0 = some (jR (some 76)) → lv 5 = some (jI x5) → lv 11 = some (jI x11) → ey (mm_xt L xs) 6 284 590 lv [] (jhm b m) r := by
  intro lv f0 f5 f11
  unfold jd_284_s590 at e
  refine ey_iload (cd_284 rfl) f11 ?_
  refine ey_aload_n (cd_284 rfl) f0 ?_
  refine ey_getf_i (z := (m 76 74)) (cd_284 rfl) mt_284 rfl rfl rfl (jhm_gi hb 74) ?_
  by_cases q97 : (jw (m 76 74)) ≤ (jw x11)
  · rw [if_pos q97] at e
    refine ey_cge (cd_284 rfl) rfl rfl rfl q97 ?_
    cases e
    exact K lv 
  · rw [if_neg q97] at e
    refine ey_nge (cd_284 rfl) rfl rfl rfl q97 ?_
    refine ey_aload_n (cd_284 rfl) f0 ?_
    refine ey_getf_r (cd_284 rfl) mt_284 rfl rfl rfl (jhm_gr (q := 124) hb rfl) ?_
    refine ey_iload (cd_284 rfl) f11 ?_
    refine ey_aload_n (cd_284 rfl) f0 ?_
    refine ey_getf_r (cd_284 rfl) mt_284 rfl rfl rfl (jhm_gr (q := 113) hb rfl) ?_
    refine ey_iload (cd_284 rfl) f5 ?_
    refine ey_iload (cd_284 rfl) f11 ?_
    refine ey_iadd (cd_284 rfl) ?_
    obtain ⟨v98, e99, e⟩ := jbind e
    refine ey_bald (cd_284 rfl) (jhm_ab hb (by decide) rfl e99) ?_
    obtain ⟨m100, e101, e⟩ := jbind e
    refine ey_bast (cd_284 rfl) (jhm_ta hb (by decide) rfl e101) ?_
    refine ey_iinc (cd_284 rfl) mt_284 rfl f11 ?_
    refine ey_goto (cd_284 rfl) rfl ?_
    cases e
    exact K (jup lv 11 (jI (x11 + 1))) f0 f5 rfl
theorem jk_284_l590 {L : Nat} {xs : Nat → Int32} {b : jH} (hb : 152 ≤ b.1) (h6 : b.1 ≤ 1000000) {x5 : Int} {x11 : Int} {m : jM} {x : jM} {r : mm_R} (e : jd_284_l590 x5 x11 m = some x) (K : (∀ lv : jL, ey (mm_xt L xs) 6 284 622 lv [] (jhm b x) r)) : ∀ lv : jL, lv 0 = some (jR (some 76)) → lv 5 = some (jI x5) → lv 11 = some (jI x11) → ey (mm_xt L xs) 6 284 590 lv [] (jhm b m) r := by
  unfold jd_284_l590 at e
  exact jlp_ok2 (P := fun s => ∀ lv : jL, lv 0 = some (jR (some 76)) → lv 5 = some (jI x5) → lv 11 = some (jI s.1) → ey (mm_xt L xs) 6 284 590 lv [] (jhm b s.2) r) (Q := fun x => (∀ lv : jL, ey (mm_xt L xs) 6 284 622 lv [] (jhm b x) r)) (fun s q hq hk => jk_284_s590 hb h6 hq hk) jfu _ x e K
set_option maxRecDepth 100000 in
theorem jk_284_b480 {L : Nat} {xs : Nat → Int32} {b : jH} (hb : 152 ≤ b.1) (h6 : b.1 ≤ 1000000) {x1 : Int} {x2 : Int} {x5 : Int} {x9 : Int} {m : jM} {o : jM} (e : jd_284_b480 x1 x2 x5 x9 m = some o) : ∀ lv : jL, lv 0 = some (jR (some 76)) → lv 1 = some (jI x1) → lv 2 = some (jI x2) → lv 5 = some (jI x5) → lv 9 = some (jJ x9) → ey (mm_xt L xs) 6 284 480 lv [] (jhm b m) (.inl (none, jaH (jhm b o))) := by
  intro lv f0 f1 f2 f5 f9
  unfold jd_284_b480 at e
  refine ey_aload_n (cd_284 rfl) f0 ?_
  refine ey_lload (cd_284 rfl) f9 ?_
  obtain ⟨m75, e76, e⟩ := jbind e
  refine ey_putf_l (cd_284 rfl) mt_284 rfl rfl rfl (jhm_pi' (k := 75) hb e76) ?_
  refine ey_iconst (cd_284 rfl) ?_
  refine ey_istore (cd_284 rfl) mt_284 rfl ?_
  obtain ⟨x84, e85, e⟩ := jbind e
  refine jk_284_l489 hb h6 e85 ?_ (jup lv 11 (jI 0)) f0 f1 f2 f5 rfl
  intro lv g0 g1 g2 g5
  refine ey_aload_n (cd_284 rfl) g0 ?_
  refine ey_iload_n (cd_284 rfl) g1 ?_
  refine ey_iload_n (cd_284 rfl) g2 ?_
  refine ey_aload_n (cd_284 rfl) g0 ?_
  refine ey_getf_i (z := (x84 76 53)) (cd_284 rfl) mt_284 rfl rfl rfl (jhm_gi hb 53) ?_
  refine ey_iload (cd_284 rfl) g5 ?_
  refine ey_isub (cd_284 rfl) ?_
  obtain ⟨m86, e87, e⟩ := jbind e
  refine ey_cv (s0 := [jI ((x84 76 53) - x5), jI x2, jI x1, jR (some 76)]) (s1 := []) (st' := []) (cd_284 rfl) mt_284 mt_266 rfl rfl rfl (jhm_is hb) rfl (jsml_s rfl) rfl (mm_Runs.up (d := 1) (by decide) (ok_266 hb h6 e87)) ?_
  refine ey_iconst (cd_284 rfl) ?_
  refine ey_istore (cd_284 rfl) mt_284 rfl ?_
  obtain ⟨x93, e94, e⟩ := jbind e
  refine jk_284_l548 hb h6 e94 ?_ (jup lv 11 (jI 0)) g0 g1 g2 g5 rfl
  intro lv g0 g5
  refine ey_aload_n (cd_284 rfl) g0 ?_
  refine ey_aload_n (cd_284 rfl) g0 ?_
  refine ey_getf_i (z := (x93 76 53)) (cd_284 rfl) mt_284 rfl rfl rfl (jhm_gi hb 53) ?_
  refine ey_iload (cd_284 rfl) g5 ?_
  refine ey_isub (cd_284 rfl) ?_
  obtain ⟨m95, e96, e⟩ := jbind e
  refine ey_putf_i (cd_284 rfl) mt_284 rfl rfl rfl (jhm_pi' (k := 74) hb e96) ?_
  refine ey_iconst (cd_284 rfl) ?_
  refine ey_istore (cd_284 rfl) mt_284 rfl ?_
  obtain ⟨x102, e103, e⟩ := jbind e
  refine jk_284_l590 hb h6 e103 ?_ (jup lv 11 (jI 0)) g0 g5 rfl
  intro lv 
  cases e
  exact ey_retv (cd_284 rfl) mt_284 rfl
set_option maxRecDepth 100000 in
theorem jk_284_b288 {L : Nat} {xs : Nat → Int32} {b : jH} (hb : 152 ≤ b.1) (h6 : b.1 ≤ 1000000) {x1 : Int} {x2 : Int} {x4 : Int} {x5 : Int} {x6 : Int} {m : jM} {o : jM} (e : jd_284_b288 x1 x2 x4 x5 x6 m = some o) : ∀ lv : jL, lv 0 = some (jR (some 76)) → lv 1 = some (jI x1) → lv 2 = some (jI x2) → lv 4 = some (jI x4) → lv 5 = some (jI x5) → lv 6 = some (jI x6) → ey (mm_xt L xs) 6 284 288 lv [] (jhm b m) (.inl (none, jaH (jhm b o))) := by
  intro lv f0 f1 f2 f4 f5 f6
  unfold jd_284_b288 at e
  refine ey_aload_n (cd_284 rfl) f0 ?_
  refine ey_iload_n (cd_284 rfl) f1 ?_
  refine ey_iload_n (cd_284 rfl) f2 ?_
  refine ey_aload_n (cd_284 rfl) f0 ?_
  refine ey_getf_i (z := (m 76 61)) (cd_284 rfl) mt_284 rfl rfl rfl (jhm_gi hb 61) ?_
  refine ey_aload_n (cd_284 rfl) f0 ?_
  refine ey_getf_i (z := (m 76 62)) (cd_284 rfl) mt_284 rfl rfl rfl (jhm_gi hb 62) ?_
  refine ey_aload_n (cd_284 rfl) f0 ?_
  refine ey_getf_i (z := (m 76 63)) (cd_284 rfl) mt_284 rfl rfl rfl (jhm_gi hb 63) ?_
  refine ey_aload_n (cd_284 rfl) f0 ?_
  refine ey_getf_i (z := (m 76 64)) (cd_284 rfl) mt_284 rfl rfl rfl (jhm_gi hb 64) ?_
  refine ey_aload_n (cd_284 rfl) f0 ?_
  refine ey_getf_i (z := (m 76 65)) (cd_284 rfl) mt_284 rfl rfl rfl (jhm_gi hb 65) ?_
  obtain ⟨m52, e53, e⟩ := jbind e
  refine ey_cv (s0 := [jI (m 76 65), jI (m 76 64), jI (m 76 63), jI (m 76 62), jI (m 76 61), jI x2, jI x1, jR (some 76)]) (s1 := []) (st' := []) (cd_284 rfl) mt_284 mt_247 rfl rfl rfl (jhm_is hb) rfl (jsml_s rfl) rfl (ok_247 hb h6 e53) ?_
  refine ey_iconst (cd_284 rfl) ?_
  refine ey_istore (cd_284 rfl) mt_284 rfl ?_
  obtain ⟨x58, e59, e⟩ := jbind e
  refine jk_284_l317 hb h6 e59 ?_ (jup lv 9 (jI 0)) f0 f1 f2 f4 f5 f6 rfl
  intro lv g0 g1 g2 g4 g5
  refine ey_iload (cd_284 rfl) g4 ?_
  refine ey_i2l (cd_284 rfl) ?_
  refine ey_iload (cd_284 rfl) g4 ?_
  refine ey_i2l (cd_284 rfl) ?_
  refine ey_lmul (cd_284 rfl) ?_
  refine ey_aload_n (cd_284 rfl) g0 ?_
  refine ey_getf_i (z := (x58 76 53)) (cd_284 rfl) mt_284 rfl rfl rfl (jhm_gi hb 53) ?_
  refine ey_iload (cd_284 rfl) g5 ?_
  refine ey_isub (cd_284 rfl) ?_
  refine ey_i2l (cd_284 rfl) ?_
  refine ey_lmul (cd_284 rfl) ?_
  refine ey_lstore (cd_284 rfl) mt_284 rfl ?_
  refine ey_iconst (cd_284 rfl) ?_
  refine ey_istore (cd_284 rfl) mt_284 rfl ?_
  obtain ⟨x72, e73, e⟩ := jbind e
  refine jk_284_l366 hb h6 e73 ?_ (jup (jup2 lv 9 (jJ (((jw x4) * (jw x4)) * (jw ((x58 76 53) - x5))))) 11 (jI 0)) g0 g1 g2 g5 rfl rfl
  intro lv g0 g1 g2 g5 g9
  refine ey_aload_n (cd_284 rfl) g0 ?_
  refine ey_getf_l (z := (x58 76 75)) (cd_284 rfl) mt_284 rfl rfl rfl (jhm_gi hb 75) ?_
  refine ey_lconst0 (cd_284 rfl) ?_
  refine ey_lcmp (cd_284 rfl) ?_
  by_cases q74 : (jwl (x58 76 75)) < 0
  · rw [if_pos q74] at e
    refine ey_zlt (cd_284 rfl) rfl rfl ((jlc_lt rfl (show jwl 0 = 0 from by decide)).mpr q74) ?_
    exact jk_284_b480 hb h6 e lv g0 g1 g2 g5 g9
  · rw [if_neg q74] at e
    refine ey_ylt (cd_284 rfl) rfl rfl (fun w => q74 ((jlc_lt rfl (show jwl 0 = 0 from by decide)).mp w)) ?_
    refine ey_lload (cd_284 rfl) g9 ?_
    refine ey_aload_n (cd_284 rfl) g0 ?_
    refine ey_getf_l (z := (x58 76 75)) (cd_284 rfl) mt_284 rfl rfl rfl (jhm_gi hb 75) ?_
    refine ey_lcmp (cd_284 rfl) ?_
    by_cases q104 : (jwl x72) < (jwl (x58 76 75))
    · rw [if_pos q104] at e
      refine ey_zlt (cd_284 rfl) rfl rfl ((jlc_lt rfl rfl).mpr q104) ?_
      exact jk_284_b480 hb h6 e lv g0 g1 g2 g5 g9
    · rw [if_neg q104] at e
      refine ey_ylt (cd_284 rfl) rfl rfl (fun w => q104 ((jlc_lt rfl rfl).mp w)) ?_
      cases e
      exact ey_retv (cd_284 rfl) mt_284 rfl
set_option maxRecDepth 100000 in
theorem jk_284_b129 {L : Nat} {xs : Nat → Int32} {b : jH} (hb : 152 ≤ b.1) (h6 : b.1 ≤ 1000000) {x1 : Int} {x2 : Int} {x4 : Int} {x5 : Int} {x6 : Int} {x7 : Int} {y0 : Int} {m : jM} {o : jM} (e : jd_284_b129 x1 x2 x4 x5 x6 x7 y0 m = some o) : ∀ lv : jL, lv 0 = some (jR (some 76)) → lv 1 = some (jI x1) → lv 2 = some (jI x2) → lv 4 = some (jI x4) → lv 5 = some (jI x5) → lv 6 = some (jI x6) → lv 7 = some (jI x7) → ey (mm_xt L xs) 6 284 129 lv [jI y0] (jhm b m) (.inl (none, jaH (jhm b o))) := by
  intro lv f0 f1 f2 f4 f5 f6 f7
  unfold jd_284_b129 at e
  refine ey_istore (cd_284 rfl) mt_284 rfl ?_
  refine ey_iload (cd_284 rfl) f6 ?_
  by_cases q21 : (jw x6) = 0
  · rw [if_pos q21] at e
    refine ey_yne (cd_284 rfl) rfl rfl (fun w => w q21) ?_
    refine ey_aload_n (cd_284 rfl) f0 ?_
    refine ey_iload (cd_284 rfl) (jup_pi (lv := lv) (j := 7) (v := jI y0) (z := x7) f7) ?_
    refine ey_aload_n (cd_284 rfl) f0 ?_
    refine ey_getf_r (cd_284 rfl) mt_284 rfl rfl rfl (jhm_gr (q := 125) hb rfl) ?_
    refine ey_iconst (cd_284 rfl) ?_
    obtain ⟨v22, e23, e⟩ := jbind e
    refine ey_iald (cd_284 rfl) (jhm_ai hb h6 (by decide) rfl e23) ?_
    refine ey_imul (cd_284 rfl) ?_
    obtain ⟨m24, e25, e⟩ := jbind e
    refine ey_putf_i (cd_284 rfl) mt_284 rfl rfl rfl (jhm_pi' (k := 62) hb e25) ?_
    refine ey_aload_n (cd_284 rfl) f0 ?_
    refine ey_iload (cd_284 rfl) (jup_pi (lv := lv) (j := 7) (v := jI y0) (z := x7) f7) ?_
    refine ey_aload_n (cd_284 rfl) f0 ?_
    refine ey_getf_r (cd_284 rfl) mt_284 rfl rfl rfl (jhm_gr (q := 125) hb rfl) ?_
    refine ey_iconst (cd_284 rfl) ?_
    obtain ⟨v26, e27, e⟩ := jbind e
    refine ey_iald (cd_284 rfl) (jhm_ai hb h6 (by decide) rfl e27) ?_
    refine ey_imul (cd_284 rfl) ?_
    obtain ⟨m28, e29, e⟩ := jbind e
    refine ey_putf_i (cd_284 rfl) mt_284 rfl rfl rfl (jhm_pi' (k := 63) hb e29) ?_
    refine ey_aload_n (cd_284 rfl) f0 ?_
    refine ey_iload (cd_284 rfl) rfl ?_
    refine ey_aload_n (cd_284 rfl) f0 ?_
    refine ey_getf_r (cd_284 rfl) mt_284 rfl rfl rfl (jhm_gr (q := 125) hb rfl) ?_
    refine ey_iconst (cd_284 rfl) ?_
    obtain ⟨v30, e31, e⟩ := jbind e
    refine ey_iald (cd_284 rfl) (jhm_ai hb h6 (by decide) rfl e31) ?_
    refine ey_imul (cd_284 rfl) ?_
    obtain ⟨m32, e33, e⟩ := jbind e
    refine ey_putf_i (cd_284 rfl) mt_284 rfl rfl rfl (jhm_pi' (k := 64) hb e33) ?_
    refine ey_aload_n (cd_284 rfl) f0 ?_
    refine ey_iload (cd_284 rfl) rfl ?_
    refine ey_aload_n (cd_284 rfl) f0 ?_
    refine ey_getf_r (cd_284 rfl) mt_284 rfl rfl rfl (jhm_gr (q := 125) hb rfl) ?_
    refine ey_iconst (cd_284 rfl) ?_
    obtain ⟨v34, e35, e⟩ := jbind e
    refine ey_iald (cd_284 rfl) (jhm_ai hb h6 (by decide) rfl e35) ?_
    refine ey_imul (cd_284 rfl) ?_
    obtain ⟨m36, e37, e⟩ := jbind e
    refine ey_putf_i (cd_284 rfl) mt_284 rfl rfl rfl (jhm_pi' (k := 65) hb e37) ?_
    refine ey_iconst (cd_284 rfl) ?_
    refine ey_istore (cd_284 rfl) mt_284 rfl ?_
    obtain ⟨x50, e51, e⟩ := jbind e
    refine jk_284_l191 hb h6 e51 ?_ (jup (jup lv 8 (jI y0)) 9 (jI 0)) f0 f1 f2 f4 f5 f6 (jup_o rfl (jup_pi (lv := lv) (j := 7) (v := jI y0) (z := x7) f7)) (jup_pi (lv := (jup lv 8 (jI y0))) (j := 8) (v := jI 0) (z := y0) rfl) rfl
    intro lv g0 g1 g2 g4 g5 g6
    exact jk_284_b288 hb h6 e lv g0 g1 g2 g4 g5 g6
  · rw [if_neg q21] at e
    refine ey_zne (cd_284 rfl) rfl rfl q21 ?_
    exact jk_284_b288 hb h6 e (jup lv 8 (jI y0)) f0 f1 f2 f4 f5 f6
set_option maxRecDepth 100000 in
theorem jk_284_b106 {L : Nat} {xs : Nat → Int32} {b : jH} (hb : 152 ≤ b.1) (h6 : b.1 ≤ 1000000) {x1 : Int} {x2 : Int} {x4 : Int} {x5 : Int} {x6 : Int} {y0 : Int} {m : jM} {o : jM} (e : jd_284_b106 x1 x2 x4 x5 x6 y0 m = some o) : ∀ lv : jL, lv 0 = some (jR (some 76)) → lv 1 = some (jI x1) → lv 2 = some (jI x2) → lv 4 = some (jI x4) → lv 5 = some (jI x5) → lv 6 = some (jI x6) → ey (mm_xt L xs) 6 284 106 lv [jI y0] (jhm b m) (.inl (none, jaH (jhm b o))) := by
  intro lv f0 f1 f2 f4 f5 f6
  unfold jd_284_b106 at e
  refine ey_istore (cd_284 rfl) mt_284 rfl ?_
  refine ey_aload_n (cd_284 rfl) f0 ?_
  refine ey_getf_i (z := (m 76 61)) (cd_284 rfl) mt_284 rfl rfl rfl (jhm_gi hb 61) ?_
  refine ey_iconst (cd_284 rfl) ?_
  have K105 : ∀ lv : jL, lv 0 = some (jR (some 76)) → lv 1 = some (jI x1) → lv 2 = some (jI x2) → lv 4 = some (jI x4) → lv 5 = some (jI x5) → lv 6 = some (jI x6) → lv 7 = some (jI y0) → ey (mm_xt L xs) 6 284 129 lv [jI (if (jw (m 76 61)) = 4 then 1 else (if (jw (m 76 61)) = 5 then 1 else 0))] (jhm b m) (.inl (none, jaH (jhm b o))) := by
    intro lv g0 g1 g2 g4 g5 g6 g7
    exact jk_284_b129 hb h6 e lv g0 g1 g2 g4 g5 g6 g7
  by_cases q106 : (jw (m 76 61)) = 4
  · refine ey_ceq (cd_284 rfl) rfl rfl (show jw 4 = 4 from by decide) q106 ?_
    refine ey_iconst (cd_284 rfl) ?_
    refine ey_goto (cd_284 rfl) rfl ?_
    exact ey_rs (s0 := [jI 1]) (s1 := [jI (if (jw (m 76 61)) = 4 then 1 else (if (jw (m 76 61)) = 5 then 1 else 0))]) (by rw [show ((if (jw (m 76 61)) = 4 then 1 else (if (jw (m 76 61)) = 5 then 1 else 0)) : Int) = 1 from (if_pos q106)]) (K105 (jup lv 7 (jI y0)) f0 f1 f2 f4 f5 (jup_pi (lv := lv) (j := 6) (v := jI y0) (z := x6) f6) rfl)
  · refine ey_neq (cd_284 rfl) rfl rfl (show jw 4 = 4 from by decide) q106 ?_
    refine ey_aload_n (cd_284 rfl) f0 ?_
    refine ey_getf_i (z := (m 76 61)) (cd_284 rfl) mt_284 rfl rfl rfl (jhm_gi hb 61) ?_
    refine ey_iconst (cd_284 rfl) ?_
    by_cases q107 : (jw (m 76 61)) = 5
    · refine ey_nne (cd_284 rfl) rfl rfl (show jw 5 = 5 from by decide) (fun w => w q107) ?_
      refine ey_iconst (cd_284 rfl) ?_
      refine ey_goto (cd_284 rfl) rfl ?_
      exact ey_rs (s0 := [jI 1]) (s1 := [jI (if (jw (m 76 61)) = 4 then 1 else (if (jw (m 76 61)) = 5 then 1 else 0))]) (by rw [show ((if (jw (m 76 61)) = 4 then 1 else (if (jw (m 76 61)) = 5 then 1 else 0)) : Int) = 1 from ((if_neg q106).trans (if_pos q107))]) (K105 (jup lv 7 (jI y0)) f0 f1 f2 f4 f5 (jup_pi (lv := lv) (j := 6) (v := jI y0) (z := x6) f6) rfl)
    · refine ey_cne (cd_284 rfl) rfl rfl (show jw 5 = 5 from by decide) q107 ?_
      refine ey_iconst (cd_284 rfl) ?_
      exact ey_rs (s0 := [jI 0]) (s1 := [jI (if (jw (m 76 61)) = 4 then 1 else (if (jw (m 76 61)) = 5 then 1 else 0))]) (by rw [show ((if (jw (m 76 61)) = 4 then 1 else (if (jw (m 76 61)) = 5 then 1 else 0)) : Int) = 0 from ((if_neg q106).trans (if_neg q107))]) (K105 (jup lv 7 (jI y0)) f0 f1 f2 f4 f5 (jup_pi (lv := lv) (j := 6) (v := jI y0) (z := x6) f6) rfl)
set_option maxRecDepth 100000 in
theorem jk_284_b85 {L : Nat} {xs : Nat → Int32} {b : jH} (hb : 152 ≤ b.1) (h6 : b.1 ≤ 1000000) {x1 : Int} {x2 : Int} {x4 : Int} {x5 : Int} {x6 : Int} {m : jM} {o : jM} (e : jd_284_b85 x1 x2 x4 x5 x6 m = some o) : ∀ lv : jL, lv 0 = some (jR (some 76)) → lv 1 = some (jI x1) → lv 2 = some (jI x2) → lv 4 = some (jI x4) → lv 5 = some (jI x5) → lv 6 = some (jI x6) → ey (mm_xt L xs) 6 284 85 lv [] (jhm b m) (.inl (none, jaH (jhm b o))) := by
  intro lv f0 f1 f2 f4 f5 f6
  unfold jd_284_b85 at e
  refine ey_aload_n (cd_284 rfl) f0 ?_
  refine ey_getf_i (z := (m 76 61)) (cd_284 rfl) mt_284 rfl rfl rfl (jhm_gi hb 61) ?_
  refine ey_iconst (cd_284 rfl) ?_
  have K108 : ∀ lv : jL, lv 0 = some (jR (some 76)) → lv 1 = some (jI x1) → lv 2 = some (jI x2) → lv 4 = some (jI x4) → lv 5 = some (jI x5) → lv 6 = some (jI x6) → ey (mm_xt L xs) 6 284 106 lv [jI (if (jw (m 76 61)) = 3 then 1 else (if (jw (m 76 61)) = 5 then 1 else 0))] (jhm b m) (.inl (none, jaH (jhm b o))) := by
    intro lv g0 g1 g2 g4 g5 g6
    exact jk_284_b106 hb h6 e lv g0 g1 g2 g4 g5 g6
  by_cases q109 : (jw (m 76 61)) = 3
  · refine ey_ceq (cd_284 rfl) rfl rfl (show jw 3 = 3 from by decide) q109 ?_
    refine ey_iconst (cd_284 rfl) ?_
    refine ey_goto (cd_284 rfl) rfl ?_
    exact ey_rs (s0 := [jI 1]) (s1 := [jI (if (jw (m 76 61)) = 3 then 1 else (if (jw (m 76 61)) = 5 then 1 else 0))]) (by rw [show ((if (jw (m 76 61)) = 3 then 1 else (if (jw (m 76 61)) = 5 then 1 else 0)) : Int) = 1 from (if_pos q109)]) (K108 lv f0 f1 f2 f4 f5 f6)
  · refine ey_neq (cd_284 rfl) rfl rfl (show jw 3 = 3 from by decide) q109 ?_
    refine ey_aload_n (cd_284 rfl) f0 ?_
    refine ey_getf_i (z := (m 76 61)) (cd_284 rfl) mt_284 rfl rfl rfl (jhm_gi hb 61) ?_
    refine ey_iconst (cd_284 rfl) ?_
    by_cases q110 : (jw (m 76 61)) = 5
    · refine ey_nne (cd_284 rfl) rfl rfl (show jw 5 = 5 from by decide) (fun w => w q110) ?_
      refine ey_iconst (cd_284 rfl) ?_
      refine ey_goto (cd_284 rfl) rfl ?_
      exact ey_rs (s0 := [jI 1]) (s1 := [jI (if (jw (m 76 61)) = 3 then 1 else (if (jw (m 76 61)) = 5 then 1 else 0))]) (by rw [show ((if (jw (m 76 61)) = 3 then 1 else (if (jw (m 76 61)) = 5 then 1 else 0)) : Int) = 1 from ((if_neg q109).trans (if_pos q110))]) (K108 lv f0 f1 f2 f4 f5 f6)
    · refine ey_cne (cd_284 rfl) rfl rfl (show jw 5 = 5 from by decide) q110 ?_
      refine ey_iconst (cd_284 rfl) ?_
      exact ey_rs (s0 := [jI 0]) (s1 := [jI (if (jw (m 76 61)) = 3 then 1 else (if (jw (m 76 61)) = 5 then 1 else 0))]) (by rw [show ((if (jw (m 76 61)) = 3 then 1 else (if (jw (m 76 61)) = 5 then 1 else 0)) : Int) = 0 from ((if_neg q109).trans (if_neg q110))]) (K108 lv f0 f1 f2 f4 f5 f6)
set_option maxRecDepth 100000 in
theorem ok_284 {L : Nat} {xs : Nat → Int32} {b : jH} (hb : 152 ≤ b.1) (h6 : b.1 ≤ 1000000) {p0 : Int} {p1 : Int} {p2 : Int} {p3 : Int} {p4 : Int} {m : jM} {o : jM} (e : jd_284 p0 p1 p2 p3 p4 m = some o) : mm_Runs (mm_xt L xs) 7 284 ([jR (some 76), jI p0, jI p1, jI p2, jI p3, jI p4].map jcv) (jaH (jhm b m)) (.inl (none, jaH (jhm b o))) := by
  refine ey_run0 _ mt_284 (jsl_s rfl) ?_
  unfold jd_284 at e
  refine ey_aload_n (cd_284 rfl) rfl ?_
  refine ey_iload (cd_284 rfl) rfl ?_
  obtain ⟨m1, e2, e⟩ := jbind e
  refine ey_putf_i (cd_284 rfl) mt_284 rfl rfl rfl (jhm_pi' (k := 53) hb e2) ?_
  refine ey_aload_n (cd_284 rfl) rfl ?_
  refine ey_iload_n (cd_284 rfl) rfl ?_
  obtain ⟨m3, e4, e⟩ := jbind e
  refine ey_putf_i (cd_284 rfl) mt_284 rfl rfl rfl (jhm_pi' (k := 60) hb e4) ?_
  refine ey_aload_n (cd_284 rfl) rfl ?_
  refine ey_aload_n (cd_284 rfl) rfl ?_
  refine ey_getf_r (cd_284 rfl) mt_284 rfl rfl rfl (jhm_gr (q := 102) hb rfl) ?_
  refine ey_iload_n (cd_284 rfl) rfl ?_
  obtain ⟨v5, e6, e⟩ := jbind e
  refine ey_iald (cd_284 rfl) (jhm_ai hb h6 (by decide) rfl e6) ?_
  refine ey_iload_n (cd_284 rfl) rfl ?_
  refine ey_cs (s0 := [jI p2, jI v5, jR (some 76)]) (s1 := [jR (some 76)]) (st' := [jI (jd_261 v5 p2), jR (some 76)]) (cd_284 rfl) mt_284 mt_261 rfl (by decide) rfl rfl (jsml_s rfl) rfl (mm_Runs.up (d := 1) (by decide) (ok_261 )) ?_
  obtain ⟨m7, e8, e⟩ := jbind e
  refine ey_putf_i (cd_284 rfl) mt_284 rfl rfl rfl (jhm_pi' (k := 61) hb e8) ?_
  refine ey_aload_n (cd_284 rfl) rfl ?_
  refine ey_iconst (cd_284 rfl) ?_
  obtain ⟨m9, e10, e⟩ := jbind e
  refine ey_putf_i (cd_284 rfl) mt_284 rfl rfl rfl (jhm_pi' (k := 59) hb e10) ?_
  refine ey_iconst (cd_284 rfl) ?_
  refine ey_istore (cd_284 rfl) mt_284 rfl ?_
  obtain ⟨x14, e15, e⟩ := jbind e
  refine jk_284_l33 hb h6 e15 ?_ (jup (jlf (jla 0 [jR (some 76), jI p0, jI p1, jI p2, jI p3, jI p4])) 6 (jI 0)) rfl rfl rfl rfl rfl (jup_pi (lv := (jlf (jla 0 [jR (some 76), jI p0, jI p1, jI p2, jI p3, jI p4]))) (j := 5) (v := jI 0) (z := p4) rfl) rfl
  intro lv g0 g1 g2 g3 g4 g5
  refine ey_aload_n (cd_284 rfl) g0 ?_
  refine ey_iload_n (cd_284 rfl) g3 ?_
  obtain ⟨m16, e17, e⟩ := jbind e
  refine ey_cv (s0 := [jI p2, jR (some 76)]) (s1 := []) (st' := []) (cd_284 rfl) mt_284 mt_234 rfl rfl rfl (jhm_is hb) rfl (jsml_s rfl) rfl (mm_Runs.up (d := 2) (by decide) (ok_234 hb h6 e17)) ?_
  refine ey_aload_n (cd_284 rfl) g0 ?_
  refine ey_getf_i (z := (m16 76 61)) (cd_284 rfl) mt_284 rfl rfl rfl (jhm_gi hb 61) ?_
  refine ey_iconst (cd_284 rfl) ?_
  have K113 : ∀ lv : jL, lv 0 = some (jR (some 76)) → lv 1 = some (jI p0) → lv 2 = some (jI p1) → lv 4 = some (jI p3) → lv 5 = some (jI p4) → ey (mm_xt L xs) 6 284 72 lv [jI (if (jw (m16 76 61)) = (-1) then 1 else 0)] (jhm b m16) (.inl (none, jaH (jhm b o))) := by
    intro lv g0 g1 g2 g4 g5
    obtain ⟨z18, e19, e⟩ := jbind e
    refine ey_rs (s0 := [jI (if (jw (m16 76 61)) = (-1) then 1 else 0)]) (s1 := [jI z18]) (by rw [show (if (jw (m16 76 61)) = (-1) then 1 else 0) = z18 from Option.some.inj e19]) ?_
    refine ey_istore (cd_284 rfl) mt_284 rfl ?_
    refine ey_iload (cd_284 rfl) rfl ?_
    by_cases q20 : (jw z18) = 0
    · rw [if_pos q20] at e
      refine ey_zeq (cd_284 rfl) rfl rfl q20 ?_
      exact jk_284_b85 hb h6 e (jup lv 6 (jI z18)) g0 g1 g2 g4 (jup_pi (lv := lv) (j := 5) (v := jI z18) (z := p4) g5) rfl
    · rw [if_neg q20] at e
      refine ey_yeq (cd_284 rfl) rfl rfl q20 ?_
      refine ey_aload_n (cd_284 rfl) g0 ?_
      refine ey_iload_n (cd_284 rfl) g1 ?_
      refine ey_iload_n (cd_284 rfl) g2 ?_
      obtain ⟨m111, e112, e⟩ := jbind e
      refine ey_cv (s0 := [jI p1, jI p0, jR (some 76)]) (s1 := []) (st' := []) (cd_284 rfl) mt_284 mt_264 rfl rfl rfl (jhm_is hb) rfl (jsml_s rfl) rfl (mm_Runs.up (d := 3) (by decide) (ok_264 hb h6 e112)) ?_
      exact jk_284_b85 hb h6 e (jup lv 6 (jI z18)) g0 g1 g2 g4 (jup_pi (lv := lv) (j := 5) (v := jI z18) (z := p4) g5) rfl
  by_cases q114 : (jw (m16 76 61)) = (-1)
  · refine ey_nne (cd_284 rfl) rfl rfl (show jw (-1) = (-1) from by decide) (fun w => w q114) ?_
    refine ey_iconst (cd_284 rfl) ?_
    refine ey_goto (cd_284 rfl) rfl ?_
    exact ey_rs (s0 := [jI 1]) (s1 := [jI (if (jw (m16 76 61)) = (-1) then 1 else 0)]) (by rw [show ((if (jw (m16 76 61)) = (-1) then 1 else 0) : Int) = 1 from (if_pos q114)]) (K113 lv g0 g1 g2 g4 g5)
  · refine ey_cne (cd_284 rfl) rfl rfl (show jw (-1) = (-1) from by decide) q114 ?_
    refine ey_iconst (cd_284 rfl) ?_
    exact ey_rs (s0 := [jI 0]) (s1 := [jI (if (jw (m16 76 61)) = (-1) then 1 else 0)]) (by rw [show ((if (jw (m16 76 61)) = (-1) then 1 else 0) : Int) = 0 from (if_neg q114)]) (K113 lv g0 g1 g2 g4 g5)
