theorem cd_285 {pc : Nat} {i : Instr × Nat} (h : mm_lk mm_c285 pc = some i) : mm_cd 285 pc = some i := h
theorem mt_285 : mm_MT 285 = (12, 6, none, 3, 0, []) := rfl
set_option maxRecDepth 100000 in
theorem jk_285_s141 {L : Nat} {xs : Nat → Int32} {b : jH} (hb : 152 ≤ b.1) (h6 : b.1 ≤ 1000000) {x1 : Int} {x2 : Int} {x3 : Int} {x4 : Int} {x5 : Int} {m : jM} {o : ((Int × jM) ⊕ jM)} {r : mm_R} (e : jd_285_s141 x1 x2 x3 x4 x5 m = some o) (K : jsm (fun s => (∀ lv : jL, lv 0 = some (jR (some 76)) → lv 1 = some (jI x1) → lv 2 = some (jI x2) → lv 3 = some (jI x3) → lv 4 = some (jI x4) → lv 5 = some (jI s.1) → ey (mm_xt L xs) 7 285 141 lv [] (jhm b s.2) r)) (fun x => (∀ lv : jL, lv 0 = some (jR (some 76)) → lv 1 = some (jI x1) → lv 2 = some (jI x2) → lv 4 = some (jI x4) → ey (mm_xt L xs) 7 285 172 lv [] (jhm b x) r)) o) : ∀ lv : jL, lv 0 = some (jR (some 76)) → lv 1 = some (jI x1) → lv 2 = some (jI x2) → lv 3 = some (jI x3) → lv 4 = some (jI x4) → lv 5 = some (jI x5) → ey (mm_xt L xs) 7 285 141 lv [] (jhm b m) r := by
  intro lv f0 f1 f2 f3 f4 f5
  unfold jd_285_s141 at e
  refine ey_iload (cd_285 rfl) f5 ?_
  refine ey_aload_n (cd_285 rfl) f0 ?_
  refine ey_getf_r (cd_285 rfl) mt_285 rfl rfl rfl (jhm_gr (q := 102) hb rfl) ?_
  refine ey_iload_n (cd_285 rfl) f1 ?_
  obtain ⟨v21, e22, e⟩ := jbind e
  refine ey_iald (cd_285 rfl) (jhm_ai hb h6 (by decide) rfl e22) ?_
  refine ey_cs (s0 := [jI v21, jI x5]) (s1 := [jI x5]) (st' := [jI (jd_262 v21), jI x5]) (cd_285 rfl) mt_285 mt_262 rfl (by decide) rfl rfl (jsml_s rfl) rfl (mm_Runs.up (d := 1) (by decide) (ok_262 )) ?_
  by_cases q23 : (jw (jd_262 v21)) ≤ (jw x5)
  · rw [if_pos q23] at e
    refine ey_cge (cd_285 rfl) rfl rfl rfl q23 ?_
    cases e
    exact K lv f0 f1 f2 f4
  · rw [if_neg q23] at e
    refine ey_nge (cd_285 rfl) rfl rfl rfl q23 ?_
    refine ey_aload_n (cd_285 rfl) f0 ?_
    refine ey_iload_n (cd_285 rfl) f1 ?_
    refine ey_iload_n (cd_285 rfl) f2 ?_
    refine ey_iload (cd_285 rfl) f5 ?_
    refine ey_iload_n (cd_285 rfl) f3 ?_
    refine ey_iload (cd_285 rfl) f4 ?_
    obtain ⟨m24, e25, e⟩ := jbind e
    refine ey_cv (s0 := [jI x4, jI x3, jI x5, jI x2, jI x1, jR (some 76)]) (s1 := []) (st' := []) (cd_285 rfl) mt_285 mt_284 rfl rfl rfl (jhm_is hb) rfl (jsml_s rfl) rfl (ok_284 hb h6 e25) ?_
    refine ey_iinc (cd_285 rfl) mt_285 rfl f5 ?_
    refine ey_goto (cd_285 rfl) rfl ?_
    cases e
    exact K (jup lv 5 (jI (x5 + 1))) f0 f1 f2 f3 (jup_pi (lv := lv) (j := 4) (v := jI (x5 + 1)) (z := x4) f4) rfl
theorem jk_285_l141 {L : Nat} {xs : Nat → Int32} {b : jH} (hb : 152 ≤ b.1) (h6 : b.1 ≤ 1000000) {x1 : Int} {x2 : Int} {x3 : Int} {x4 : Int} {x5 : Int} {m : jM} {x : jM} {r : mm_R} (e : jd_285_l141 x1 x2 x3 x4 x5 m = some x) (K : (∀ lv : jL, lv 0 = some (jR (some 76)) → lv 1 = some (jI x1) → lv 2 = some (jI x2) → lv 4 = some (jI x4) → ey (mm_xt L xs) 7 285 172 lv [] (jhm b x) r)) : ∀ lv : jL, lv 0 = some (jR (some 76)) → lv 1 = some (jI x1) → lv 2 = some (jI x2) → lv 3 = some (jI x3) → lv 4 = some (jI x4) → lv 5 = some (jI x5) → ey (mm_xt L xs) 7 285 141 lv [] (jhm b m) r := by
  unfold jd_285_l141 at e
  exact jlp_ok2 (P := fun s => ∀ lv : jL, lv 0 = some (jR (some 76)) → lv 1 = some (jI x1) → lv 2 = some (jI x2) → lv 3 = some (jI x3) → lv 4 = some (jI x4) → lv 5 = some (jI s.1) → ey (mm_xt L xs) 7 285 141 lv [] (jhm b s.2) r) (Q := fun x => (∀ lv : jL, lv 0 = some (jR (some 76)) → lv 1 = some (jI x1) → lv 2 = some (jI x2) → lv 4 = some (jI x4) → ey (mm_xt L xs) 7 285 172 lv [] (jhm b x) r)) (fun s q hq hk => jk_285_s141 hb h6 hq hk) jfu _ x e K
set_option maxRecDepth 100000 in
theorem jk_285_s175 {L : Nat} {xs : Nat → Int32} {b : jH} (hb : 152 ≤ b.1) (h6 : b.1 ≤ 1000000) {x1 : Int} {x2 : Int} {x4 : Int} {x5 : Int} {m : jM} {o : ((Int × jM) ⊕ jM)} {r : mm_R} (e : jd_285_s175 x1 x2 x4 x5 m = some o) (K : jsm (fun s => (∀ lv : jL, lv 0 = some (jR (some 76)) → lv 1 = some (jI x1) → lv 2 = some (jI x2) → lv 4 = some (jI x4) → lv 5 = some (jI s.1) → ey (mm_xt L xs) 7 285 175 lv [] (jhm b s.2) r)) (fun x => (∀ lv : jL, lv 0 = some (jR (some 76)) → lv 1 = some (jI x1) → lv 2 = some (jI x2) → lv 4 = some (jI x4) → ey (mm_xt L xs) 7 285 212 lv [] (jhm b x) r)) o) : ∀ lv : jL, lv 0 = some (jR (some 76)) → lv 1 = some (jI x1) → lv 2 = some (jI x2) → lv 4 = some (jI x4) → lv 5 = some (jI x5) → ey (mm_xt L xs) 7 285 175 lv [] (jhm b m) r := by
  intro lv f0 f1 f2 f4 f5
  unfold jd_285_s175 at e
  refine ey_iload (cd_285 rfl) f5 ?_
  refine ey_bipush (cd_285 rfl) (by decide) ?_
  by_cases q28 : 7 ≤ (jw x5)
  · rw [if_pos q28] at e
    refine ey_cge (cd_285 rfl) rfl rfl (show jw 7 = 7 from by decide) q28 ?_
    cases e
    exact K lv f0 f1 f2 f4
  · rw [if_neg q28] at e
    refine ey_nge (cd_285 rfl) rfl rfl (show jw 7 = 7 from by decide) q28 ?_
    refine ey_aload_n (cd_285 rfl) f0 ?_
    refine ey_getf_r (cd_285 rfl) mt_285 rfl rfl rfl (jhm_gr (q := 111) hb rfl) ?_
    refine ey_bipush (cd_285 rfl) (by decide) ?_
    refine ey_iload_n (cd_285 rfl) f1 ?_
    refine ey_imul (cd_285 rfl) ?_
    refine ey_bipush (cd_285 rfl) (by decide) ?_
    refine ey_iload_n (cd_285 rfl) f2 ?_
    refine ey_imul (cd_285 rfl) ?_
    refine ey_iadd (cd_285 rfl) ?_
    refine ey_iload (cd_285 rfl) f5 ?_
    refine ey_iadd (cd_285 rfl) ?_
    refine ey_aload_n (cd_285 rfl) f0 ?_
    refine ey_getf_r (cd_285 rfl) mt_285 rfl rfl rfl (jhm_gr (q := 123) hb rfl) ?_
    refine ey_iload (cd_285 rfl) f5 ?_
    obtain ⟨v29, e30, e⟩ := jbind e
    refine ey_iald (cd_285 rfl) (jhm_ai hb h6 (by decide) rfl e30) ?_
    obtain ⟨m31, e32, e⟩ := jbind e
    refine ey_iast (cd_285 rfl) (jhm_ta hb (by decide) rfl e32) ?_
    refine ey_iinc (cd_285 rfl) mt_285 rfl f5 ?_
    refine ey_goto (cd_285 rfl) rfl ?_
    cases e
    exact K (jup lv 5 (jI (x5 + 1))) f0 f1 f2 (jup_pi (lv := lv) (j := 4) (v := jI (x5 + 1)) (z := x4) f4) rfl
theorem jk_285_l175 {L : Nat} {xs : Nat → Int32} {b : jH} (hb : 152 ≤ b.1) (h6 : b.1 ≤ 1000000) {x1 : Int} {x2 : Int} {x4 : Int} {x5 : Int} {m : jM} {x : jM} {r : mm_R} (e : jd_285_l175 x1 x2 x4 x5 m = some x) (K : (∀ lv : jL, lv 0 = some (jR (some 76)) → lv 1 = some (jI x1) → lv 2 = some (jI x2) → lv 4 = some (jI x4) → ey (mm_xt L xs) 7 285 212 lv [] (jhm b x) r)) : ∀ lv : jL, lv 0 = some (jR (some 76)) → lv 1 = some (jI x1) → lv 2 = some (jI x2) → lv 4 = some (jI x4) → lv 5 = some (jI x5) → ey (mm_xt L xs) 7 285 175 lv [] (jhm b m) r := by
  unfold jd_285_l175 at e
  exact jlp_ok2 (P := fun s => ∀ lv : jL, lv 0 = some (jR (some 76)) → lv 1 = some (jI x1) → lv 2 = some (jI x2) → lv 4 = some (jI x4) → lv 5 = some (jI s.1) → ey (mm_xt L xs) 7 285 175 lv [] (jhm b s.2) r) (Q := fun x => (∀ lv : jL, lv 0 = some (jR (some 76)) → lv 1 = some (jI x1) → lv 2 = some (jI x2) → lv 4 = some (jI x4) → ey (mm_xt L xs) 7 285 212 lv [] (jhm b x) r)) (fun s q hq hk => jk_285_s175 hb h6 hq hk) jfu _ x e K
set_option maxRecDepth 100000 in
theorem jk_285_s215 {L : Nat} {xs : Nat → Int32} {b : jH} (hb : 152 ≤ b.1) (h6 : b.1 ≤ 1000000) {x1 : Int} {x2 : Int} {x4 : Int} {x5 : Int} {m : jM} {o : ((Int × jM) ⊕ jM)} {r : mm_R} (e : jd_285_s215 x1 x2 x4 x5 m = some o) (K : jsm (fun s => (∀ lv : jL, lv 0 = some (jR (some 76)) → lv 1 = some (jI x1) → lv 2 = some (jI x2) → lv 4 = some (jI x4) → lv 5 = some (jI s.1) → ey (mm_xt L xs) 7 285 215 lv [] (jhm b s.2) r)) (fun x => (∀ lv : jL, lv 0 = some (jR (some 76)) → lv 1 = some (jI x1) → lv 2 = some (jI x2) → lv 4 = some (jI x4) → ey (mm_xt L xs) 7 285 247 lv [] (jhm b x) r)) o) : ∀ lv : jL, lv 0 = some (jR (some 76)) → lv 1 = some (jI x1) → lv 2 = some (jI x2) → lv 4 = some (jI x4) → lv 5 = some (jI x5) → ey (mm_xt L xs) 7 285 215 lv [] (jhm b m) r := by
  intro lv f0 f1 f2 f4 f5
  unfold jd_285_s215 at e
  refine ey_iload (cd_285 rfl) f5 ?_
  refine ey_aload_n (cd_285 rfl) f0 ?_
  refine ey_getf_i (z := (m 76 74)) (cd_285 rfl) mt_285 rfl rfl rfl (jhm_gi hb 74) ?_
  by_cases q35 : (jw (m 76 74)) ≤ (jw x5)
  · rw [if_pos q35] at e
    refine ey_cge (cd_285 rfl) rfl rfl rfl q35 ?_
    cases e
    exact K lv f0 f1 f2 f4
  · rw [if_neg q35] at e
    refine ey_nge (cd_285 rfl) rfl rfl rfl q35 ?_
    refine ey_aload_n (cd_285 rfl) f0 ?_
    refine ey_getf_r (cd_285 rfl) mt_285 rfl rfl rfl (jhm_gr (q := 113) hb rfl) ?_
    refine ey_iload (cd_285 rfl) f4 ?_
    refine ey_iload (cd_285 rfl) f5 ?_
    refine ey_iadd (cd_285 rfl) ?_
    refine ey_aload_n (cd_285 rfl) f0 ?_
    refine ey_getf_r (cd_285 rfl) mt_285 rfl rfl rfl (jhm_gr (q := 124) hb rfl) ?_
    refine ey_iload (cd_285 rfl) f5 ?_
    obtain ⟨v36, e37, e⟩ := jbind e
    refine ey_bald (cd_285 rfl) (jhm_ab hb (by decide) rfl e37) ?_
    obtain ⟨m38, e39, e⟩ := jbind e
    refine ey_bast (cd_285 rfl) (jhm_ta hb (by decide) rfl e39) ?_
    refine ey_iinc (cd_285 rfl) mt_285 rfl f5 ?_
    refine ey_goto (cd_285 rfl) rfl ?_
    cases e
    exact K (jup lv 5 (jI (x5 + 1))) f0 f1 f2 (jup_pi (lv := lv) (j := 4) (v := jI (x5 + 1)) (z := x4) f4) rfl
theorem jk_285_l215 {L : Nat} {xs : Nat → Int32} {b : jH} (hb : 152 ≤ b.1) (h6 : b.1 ≤ 1000000) {x1 : Int} {x2 : Int} {x4 : Int} {x5 : Int} {m : jM} {x : jM} {r : mm_R} (e : jd_285_l215 x1 x2 x4 x5 m = some x) (K : (∀ lv : jL, lv 0 = some (jR (some 76)) → lv 1 = some (jI x1) → lv 2 = some (jI x2) → lv 4 = some (jI x4) → ey (mm_xt L xs) 7 285 247 lv [] (jhm b x) r)) : ∀ lv : jL, lv 0 = some (jR (some 76)) → lv 1 = some (jI x1) → lv 2 = some (jI x2) → lv 4 = some (jI x4) → lv 5 = some (jI x5) → ey (mm_xt L xs) 7 285 215 lv [] (jhm b m) r := by
  unfold jd_285_l215 at e
  exact jlp_ok2 (P := fun s => ∀ lv : jL, lv 0 = some (jR (some 76)) → lv 1 = some (jI x1) → lv 2 = some (jI x2) → lv 4 = some (jI x4) → lv 5 = some (jI s.1) → ey (mm_xt L xs) 7 285 215 lv [] (jhm b s.2) r) (Q := fun x => (∀ lv : jL, lv 0 = some (jR (some 76)) → lv 1 = some (jI x1) → lv 2 = some (jI x2) → lv 4 = some (jI x4) → ey (mm_xt L xs) 7 285 247 lv [] (jhm b x) r)) (fun s q hq hk => jk_285_s215 hb h6 hq hk) jfu _ x e K
set_option maxRecDepth 100000 in
theorem jk_285_s261 {L : Nat} {xs : Nat → Int32} {b : jH} (hb : 152 ≤ b.1) (h6 : b.1 ≤ 1000000) {x1 : Int} {x2 : Int} {x5 : Int} {m : jM} {o : ((Int × jM) ⊕ jM)} {r : mm_R} (e : jd_285_s261 x1 x2 x5 m = some o) (K : jsm (fun s => (∀ lv : jL, lv 0 = some (jR (some 76)) → lv 1 = some (jI x1) → lv 2 = some (jI x2) → lv 5 = some (jI s.1) → ey (mm_xt L xs) 7 285 261 lv [] (jhm b s.2) r)) (fun x => (∀ lv : jL, lv 0 = some (jR (some 76)) → lv 1 = some (jI x1) → lv 2 = some (jI x2) → ey (mm_xt L xs) 7 285 296 lv [] (jhm b x) r)) o) : ∀ lv : jL, lv 0 = some (jR (some 76)) → lv 1 = some (jI x1) → lv 2 = some (jI x2) → lv 5 = some (jI x5) → ey (mm_xt L xs) 7 285 261 lv [] (jhm b m) r := by
  intro lv f0 f1 f2 f5
  unfold jd_285_s261 at e
  refine ey_iload (cd_285 rfl) f5 ?_
  refine ey_bipush (cd_285 rfl) (by decide) ?_
  by_cases q44 : 96 ≤ (jw x5)
  · rw [if_pos q44] at e
    refine ey_cge (cd_285 rfl) rfl rfl (show jw 96 = 96 from by decide) q44 ?_
    cases e
    exact K lv f0 f1 f2
  · rw [if_neg q44] at e
    refine ey_nge (cd_285 rfl) rfl rfl (show jw 96 = 96 from by decide) q44 ?_
    refine ey_aload_n (cd_285 rfl) f0 ?_
    refine ey_getf_r (cd_285 rfl) mt_285 rfl rfl rfl (jhm_gr (q := 114) hb rfl) ?_
    refine ey_iload (cd_285 rfl) f5 ?_
    refine ey_aload_n (cd_285 rfl) f0 ?_
    refine ey_getf_r (cd_285 rfl) mt_285 rfl rfl rfl (jhm_gr (q := 122) hb rfl) ?_
    refine ey_iload (cd_285 rfl) f5 ?_
    obtain ⟨v45, e46, e⟩ := jbind e
    refine ey_iald (cd_285 rfl) (jhm_ai hb h6 (by decide) rfl e46) ?_
    obtain ⟨m47, e48, e⟩ := jbind e
    refine ey_iast (cd_285 rfl) (jhm_ta hb (by decide) rfl e48) ?_
    refine ey_aload_n (cd_285 rfl) f0 ?_
    refine ey_getf_r (cd_285 rfl) mt_285 rfl rfl rfl (jhm_gr (q := 115) hb rfl) ?_
    refine ey_iload (cd_285 rfl) f5 ?_
    refine ey_iconst (cd_285 rfl) ?_
    obtain ⟨m49, e50, e⟩ := jbind e
    refine ey_iast (cd_285 rfl) (jhm_ta hb (by decide) rfl e50) ?_
    refine ey_iinc (cd_285 rfl) mt_285 rfl f5 ?_
    refine ey_goto (cd_285 rfl) rfl ?_
    cases e
    exact K (jup lv 5 (jI (x5 + 1))) f0 f1 f2 rfl
theorem jk_285_l261 {L : Nat} {xs : Nat → Int32} {b : jH} (hb : 152 ≤ b.1) (h6 : b.1 ≤ 1000000) {x1 : Int} {x2 : Int} {x5 : Int} {m : jM} {x : jM} {r : mm_R} (e : jd_285_l261 x1 x2 x5 m = some x) (K : (∀ lv : jL, lv 0 = some (jR (some 76)) → lv 1 = some (jI x1) → lv 2 = some (jI x2) → ey (mm_xt L xs) 7 285 296 lv [] (jhm b x) r)) : ∀ lv : jL, lv 0 = some (jR (some 76)) → lv 1 = some (jI x1) → lv 2 = some (jI x2) → lv 5 = some (jI x5) → ey (mm_xt L xs) 7 285 261 lv [] (jhm b m) r := by
  unfold jd_285_l261 at e
  exact jlp_ok2 (P := fun s => ∀ lv : jL, lv 0 = some (jR (some 76)) → lv 1 = some (jI x1) → lv 2 = some (jI x2) → lv 5 = some (jI s.1) → ey (mm_xt L xs) 7 285 261 lv [] (jhm b s.2) r) (Q := fun x => (∀ lv : jL, lv 0 = some (jR (some 76)) → lv 1 = some (jI x1) → lv 2 = some (jI x2) → ey (mm_xt L xs) 7 285 296 lv [] (jhm b x) r)) (fun s q hq hk => jk_285_s261 hb h6 hq hk) jfu _ x e K
set_option maxRecDepth 100000 in
theorem jk_285_b138 {L : Nat} {xs : Nat → Int32} {b : jH} (hb : 152 ≤ b.1) (h6 : b.1 ≤ 1000000) {x1 : Int} {x2 : Int} {x3 : Int} {x4 : Int} {m : jM} {o : jM} (e : jd_285_b138 x1 x2 x3 x4 m = some o) : ∀ lv : jL, lv 0 = some (jR (some 76)) → lv 1 = some (jI x1) → lv 2 = some (jI x2) → lv 3 = some (jI x3) → lv 4 = some (jI x4) → ey (mm_xt L xs) 7 285 138 lv [] (jhm b m) (.inl (none, jaH (jhm b o))) := by
  intro lv f0 f1 f2 f3 f4
  unfold jd_285_b138 at e
  refine ey_iconst (cd_285 rfl) ?_
  refine ey_istore (cd_285 rfl) mt_285 rfl ?_
  obtain ⟨x26, e27, e⟩ := jbind e
  refine jk_285_l141 hb h6 e27 ?_ (jup lv 5 (jI 0)) f0 f1 f2 f3 (jup_pi (lv := lv) (j := 4) (v := jI 0) (z := x4) f4) rfl
  intro lv g0 g1 g2 g4
  refine ey_iconst (cd_285 rfl) ?_
  refine ey_istore (cd_285 rfl) mt_285 rfl ?_
  obtain ⟨x33, e34, e⟩ := jbind e
  refine jk_285_l175 hb h6 e34 ?_ (jup lv 5 (jI 0)) g0 g1 g2 (jup_pi (lv := lv) (j := 4) (v := jI 0) (z := x4) g4) rfl
  intro lv g0 g1 g2 g4
  refine ey_iconst (cd_285 rfl) ?_
  refine ey_istore (cd_285 rfl) mt_285 rfl ?_
  obtain ⟨x40, e41, e⟩ := jbind e
  refine jk_285_l215 hb h6 e41 ?_ (jup lv 5 (jI 0)) g0 g1 g2 (jup_pi (lv := lv) (j := 4) (v := jI 0) (z := x4) g4) rfl
  intro lv g0 g1 g2 g4
  refine ey_aload_n (cd_285 rfl) g0 ?_
  refine ey_iload (cd_285 rfl) g4 ?_
  refine ey_aload_n (cd_285 rfl) g0 ?_
  refine ey_getf_i (z := (x40 76 74)) (cd_285 rfl) mt_285 rfl rfl rfl (jhm_gi hb 74) ?_
  refine ey_iadd (cd_285 rfl) ?_
  obtain ⟨m42, e43, e⟩ := jbind e
  refine ey_putf_i (cd_285 rfl) mt_285 rfl rfl rfl (jhm_pi' (k := 53) hb e43) ?_
  refine ey_iconst (cd_285 rfl) ?_
  refine ey_istore (cd_285 rfl) mt_285 rfl ?_
  obtain ⟨x51, e52, e⟩ := jbind e
  refine jk_285_l261 hb h6 e52 ?_ (jup lv 5 (jI 0)) g0 g1 g2 rfl
  intro lv g0 g1 g2
  refine ey_aload_n (cd_285 rfl) g0 ?_
  refine ey_iload_n (cd_285 rfl) g1 ?_
  refine ey_iload_n (cd_285 rfl) g2 ?_
  obtain ⟨m53, e54, e⟩ := jbind e
  refine ey_cv (s0 := [jI x2, jI x1, jR (some 76)]) (s1 := []) (st' := []) (cd_285 rfl) mt_285 mt_267 rfl rfl rfl (jhm_is hb) rfl (jsml_s rfl) rfl (mm_Runs.up (d := 3) (by decide) (ok_267 hb h6 e54)) ?_
  cases e
  exact ey_retv (cd_285 rfl) mt_285 rfl
set_option maxRecDepth 100000 in
theorem jk_285_b82 {L : Nat} {xs : Nat → Int32} {b : jH} (hb : 152 ≤ b.1) (h6 : b.1 ≤ 1000000) {x1 : Int} {x2 : Int} {x3 : Int} {x4 : Int} {m : jM} {o : jM} (e : jd_285_b82 x1 x2 x3 x4 m = some o) : ∀ lv : jL, lv 0 = some (jR (some 76)) → lv 1 = some (jI x1) → lv 2 = some (jI x2) → lv 3 = some (jI x3) → lv 4 = some (jI x4) → ey (mm_xt L xs) 7 285 82 lv [] (jhm b m) (.inl (none, jaH (jhm b o))) := by
  intro lv f0 f1 f2 f3 f4
  unfold jd_285_b82 at e
  refine ey_aload_n (cd_285 rfl) f0 ?_
  refine ey_getf_r (cd_285 rfl) mt_285 rfl rfl rfl (jhm_gr (q := 102) hb rfl) ?_
  refine ey_iload_n (cd_285 rfl) f1 ?_
  obtain ⟨v6, e7, e⟩ := jbind e
  refine ey_iald (cd_285 rfl) (jhm_ai hb h6 (by decide) rfl e7) ?_
  refine ey_iconst (cd_285 rfl) ?_
  by_cases q8 : (jw v6) = 2
  · rw [if_pos q8] at e
    refine ey_nne (cd_285 rfl) rfl rfl (show jw 2 = 2 from by decide) (fun w => w q8) ?_
    refine ey_aload_n (cd_285 rfl) f0 ?_
    refine ey_iload_n (cd_285 rfl) f1 ?_
    refine ey_iload_n (cd_285 rfl) f2 ?_
    refine ey_aload_n (cd_285 rfl) f0 ?_
    refine ey_iload_n (cd_285 rfl) f1 ?_
    refine ey_iconst (cd_285 rfl) ?_
    obtain ⟨v9, e10, e⟩ := jbind e
    refine ey_cv (s0 := [jI 1, jI x1, jR (some 76), jI x2, jI x1, jR (some 76)]) (s1 := [jI x2, jI x1, jR (some 76)]) (st' := [jI v9, jI x2, jI x1, jR (some 76)]) (cd_285 rfl) mt_285 mt_239 rfl rfl rfl (jhm_is hb) rfl (jsml_s rfl) rfl (mm_Runs.up (d := 1) (by decide) (ok_239 hb h6 e10)) ?_
    refine ey_aload_n (cd_285 rfl) f0 ?_
    refine ey_iload_n (cd_285 rfl) f1 ?_
    refine ey_iload_n (cd_285 rfl) f2 ?_
    refine ey_iconst (cd_285 rfl) ?_
    obtain ⟨v11, e12, e⟩ := jbind e
    refine ey_cv (s0 := [jI 3, jI x2, jI x1, jR (some 76), jI v9, jI x2, jI x1, jR (some 76)]) (s1 := [jI v9, jI x2, jI x1, jR (some 76)]) (st' := [jI v11, jI v9, jI x2, jI x1, jR (some 76)]) (cd_285 rfl) mt_285 mt_260 rfl rfl rfl (jhm_is hb) rfl (jsml_s rfl) rfl (mm_Runs.up (d := 2) (by decide) (ok_260 hb h6 e12)) ?_
    refine ey_aload_n (cd_285 rfl) f0 ?_
    refine ey_iload_n (cd_285 rfl) f1 ?_
    refine ey_iload_n (cd_285 rfl) f2 ?_
    refine ey_iconst (cd_285 rfl) ?_
    obtain ⟨v13, e14, e⟩ := jbind e
    refine ey_cv (s0 := [jI 4, jI x2, jI x1, jR (some 76), jI v11, jI v9, jI x2, jI x1, jR (some 76)]) (s1 := [jI v11, jI v9, jI x2, jI x1, jR (some 76)]) (st' := [jI v13, jI v11, jI v9, jI x2, jI x1, jR (some 76)]) (cd_285 rfl) mt_285 mt_260 rfl rfl rfl (jhm_is hb) rfl (jsml_s rfl) rfl (mm_Runs.up (d := 2) (by decide) (ok_260 hb h6 e14)) ?_
    obtain ⟨m15, e16, e⟩ := jbind e
    refine ey_cv (s0 := [jI v13, jI v11, jI v9, jI x2, jI x1, jR (some 76)]) (s1 := []) (st' := []) (cd_285 rfl) mt_285 mt_283 rfl rfl rfl (jhm_is hb) rfl (jsml_s rfl) rfl (mm_Runs.up (d := 5) (by decide) (ok_283 hb h6 e16)) ?_
    refine ey_aload_n (cd_285 rfl) f0 ?_
    refine ey_getf_r (cd_285 rfl) mt_285 rfl rfl rfl (jhm_gr (q := 125) hb rfl) ?_
    refine ey_iconst (cd_285 rfl) ?_
    refine ey_aload_n (cd_285 rfl) f0 ?_
    refine ey_getf_i (z := (m15 76 76)) (cd_285 rfl) mt_285 rfl rfl rfl (jhm_gi hb 76) ?_
    obtain ⟨m17, e18, e⟩ := jbind e
    refine ey_iast (cd_285 rfl) (jhm_ta hb (by decide) rfl e18) ?_
    refine ey_aload_n (cd_285 rfl) f0 ?_
    refine ey_getf_r (cd_285 rfl) mt_285 rfl rfl rfl (jhm_gr (q := 125) hb rfl) ?_
    refine ey_iconst (cd_285 rfl) ?_
    refine ey_aload_n (cd_285 rfl) f0 ?_
    refine ey_getf_i (z := (m17 76 77)) (cd_285 rfl) mt_285 rfl rfl rfl (jhm_gi hb 77) ?_
    obtain ⟨m19, e20, e⟩ := jbind e
    refine ey_iast (cd_285 rfl) (jhm_ta hb (by decide) rfl e20) ?_
    exact jk_285_b138 hb h6 e lv f0 f1 f2 f3 f4
  · rw [if_neg q8] at e
    refine ey_cne (cd_285 rfl) rfl rfl (show jw 2 = 2 from by decide) q8 ?_
    exact jk_285_b138 hb h6 e lv f0 f1 f2 f3 f4
set_option maxRecDepth 100000 in
theorem ok_285 {L : Nat} {xs : Nat → Int32} {b : jH} (hb : 152 ≤ b.1) (h6 : b.1 ≤ 1000000) {p0 : Int} {p1 : Int} {p2 : Int} {m : jM} {o : jM} (e : jd_285 p0 p1 p2 m = some o) : mm_Runs (mm_xt L xs) 8 285 ([jR (some 76), jI p0, jI p1, jI p2].map jcv) (jaH (jhm b m)) (.inl (none, jaH (jhm b o))) := by
  refine ey_run0 _ mt_285 (jsl_s rfl) ?_
  unfold jd_285 at e
  refine ey_aload_n (cd_285 rfl) rfl ?_
  refine ey_getf_i (z := (m 76 53)) (cd_285 rfl) mt_285 rfl rfl rfl (jhm_gi hb 53) ?_
  refine ey_istore (cd_285 rfl) mt_285 rfl ?_
  refine ey_aload_n (cd_285 rfl) rfl ?_
  refine ey_ldc2 (z := (-1)) (cd_285 rfl) mt_285 rfl (by decide) ?_
  obtain ⟨m1, e2, e⟩ := jbind e
  refine ey_putf_l (cd_285 rfl) mt_285 rfl rfl rfl (jhm_pi' (k := 75) hb e2) ?_
  refine ey_aload_n (cd_285 rfl) rfl ?_
  refine ey_getf_r (cd_285 rfl) mt_285 rfl rfl rfl (jhm_gr (q := 102) hb rfl) ?_
  refine ey_iload_n (cd_285 rfl) rfl ?_
  obtain ⟨v3, e4, e⟩ := jbind e
  refine ey_iald (cd_285 rfl) (jhm_ai hb h6 (by decide) rfl e4) ?_
  by_cases q5 : (jw v3) = 0
  · rw [if_pos q5] at e
    refine ey_zeq (cd_285 rfl) rfl rfl q5 ?_
    exact jk_285_b82 hb h6 e (jup (jlf (jla 0 [jR (some 76), jI p0, jI p1, jI p2])) 4 (jI (m 76 53))) rfl rfl rfl (jup_pi (lv := (jlf (jla 0 [jR (some 76), jI p0, jI p1, jI p2]))) (j := 3) (v := jI (m 76 53)) (z := p2) rfl) rfl
  · rw [if_neg q5] at e
    refine ey_yeq (cd_285 rfl) rfl rfl q5 ?_
    refine ey_aload_n (cd_285 rfl) rfl ?_
    refine ey_iload_n (cd_285 rfl) rfl ?_
    refine ey_iload_n (cd_285 rfl) rfl ?_
    refine ey_aload_n (cd_285 rfl) rfl ?_
    refine ey_iload_n (cd_285 rfl) rfl ?_
    refine ey_aload_n (cd_285 rfl) rfl ?_
    refine ey_getf_r (cd_285 rfl) mt_285 rfl rfl rfl (jhm_gr (q := 102) hb rfl) ?_
    refine ey_iload_n (cd_285 rfl) rfl ?_
    obtain ⟨v55, e56, e⟩ := jbind e
    refine ey_iald (cd_285 rfl) (jhm_ai hb h6 (by decide) rfl e56) ?_
    refine ey_iconst (cd_285 rfl) ?_
    have K69 : ∀ lv : jL, lv 0 = some (jR (some 76)) → lv 1 = some (jI p0) → lv 2 = some (jI p1) → lv 3 = some (jI p2) → lv 4 = some (jI (m 76 53)) → ey (mm_xt L xs) 7 285 42 lv [jI (if (jw v55) = 2 then 2 else 1), jI p0, jR (some 76), jI p1, jI p0, jR (some 76)] (jhm b m1) (.inl (none, jaH (jhm b o))) := by
      intro lv g0 g1 g2 g3 g4
      obtain ⟨v57, e58, e⟩ := jbind e
      refine ey_cv (s0 := [jI (if (jw v55) = 2 then 2 else 1), jI p0, jR (some 76), jI p1, jI p0, jR (some 76)]) (s1 := [jI p1, jI p0, jR (some 76)]) (st' := [jI v57, jI p1, jI p0, jR (some 76)]) (cd_285 rfl) mt_285 mt_239 rfl rfl rfl (jhm_is hb) rfl (jsml_s rfl) rfl (mm_Runs.up (d := 1) (by decide) (ok_239 hb h6 e58)) ?_
      refine ey_aload_n (cd_285 rfl) g0 ?_
      refine ey_iload_n (cd_285 rfl) g1 ?_
      refine ey_iload_n (cd_285 rfl) g2 ?_
      refine ey_iconst (cd_285 rfl) ?_
      obtain ⟨v59, e60, e⟩ := jbind e
      refine ey_cv (s0 := [jI 1, jI p1, jI p0, jR (some 76), jI v57, jI p1, jI p0, jR (some 76)]) (s1 := [jI v57, jI p1, jI p0, jR (some 76)]) (st' := [jI v59, jI v57, jI p1, jI p0, jR (some 76)]) (cd_285 rfl) mt_285 mt_260 rfl rfl rfl (jhm_is hb) rfl (jsml_s rfl) rfl (mm_Runs.up (d := 2) (by decide) (ok_260 hb h6 e60)) ?_
      refine ey_aload_n (cd_285 rfl) g0 ?_
      refine ey_iload_n (cd_285 rfl) g1 ?_
      refine ey_iload_n (cd_285 rfl) g2 ?_
      refine ey_iconst (cd_285 rfl) ?_
      obtain ⟨v61, e62, e⟩ := jbind e
      refine ey_cv (s0 := [jI 2, jI p1, jI p0, jR (some 76), jI v59, jI v57, jI p1, jI p0, jR (some 76)]) (s1 := [jI v59, jI v57, jI p1, jI p0, jR (some 76)]) (st' := [jI v61, jI v59, jI v57, jI p1, jI p0, jR (some 76)]) (cd_285 rfl) mt_285 mt_260 rfl rfl rfl (jhm_is hb) rfl (jsml_s rfl) rfl (mm_Runs.up (d := 2) (by decide) (ok_260 hb h6 e62)) ?_
      obtain ⟨m63, e64, e⟩ := jbind e
      refine ey_cv (s0 := [jI v61, jI v59, jI v57, jI p1, jI p0, jR (some 76)]) (s1 := []) (st' := []) (cd_285 rfl) mt_285 mt_283 rfl rfl rfl (jhm_is hb) rfl (jsml_s rfl) rfl (mm_Runs.up (d := 5) (by decide) (ok_283 hb h6 e64)) ?_
      refine ey_aload_n (cd_285 rfl) g0 ?_
      refine ey_getf_r (cd_285 rfl) mt_285 rfl rfl rfl (jhm_gr (q := 125) hb rfl) ?_
      refine ey_iconst (cd_285 rfl) ?_
      refine ey_aload_n (cd_285 rfl) g0 ?_
      refine ey_getf_i (z := (m63 76 76)) (cd_285 rfl) mt_285 rfl rfl rfl (jhm_gi hb 76) ?_
      obtain ⟨m65, e66, e⟩ := jbind e
      refine ey_iast (cd_285 rfl) (jhm_ta hb (by decide) rfl e66) ?_
      refine ey_aload_n (cd_285 rfl) g0 ?_
      refine ey_getf_r (cd_285 rfl) mt_285 rfl rfl rfl (jhm_gr (q := 125) hb rfl) ?_
      refine ey_iconst (cd_285 rfl) ?_
      refine ey_aload_n (cd_285 rfl) g0 ?_
      refine ey_getf_i (z := (m65 76 77)) (cd_285 rfl) mt_285 rfl rfl rfl (jhm_gi hb 77) ?_
      obtain ⟨m67, e68, e⟩ := jbind e
      refine ey_iast (cd_285 rfl) (jhm_ta hb (by decide) rfl e68) ?_
      exact jk_285_b82 hb h6 e lv g0 g1 g2 g3 g4
    by_cases q70 : (jw v55) = 2
    · refine ey_nne (cd_285 rfl) rfl rfl (show jw 2 = 2 from by decide) (fun w => w q70) ?_
      refine ey_iconst (cd_285 rfl) ?_
      refine ey_goto (cd_285 rfl) rfl ?_
      exact ey_rs (s0 := [jI 2, jI p0, jR (some 76), jI p1, jI p0, jR (some 76)]) (s1 := [jI (if (jw v55) = 2 then 2 else 1), jI p0, jR (some 76), jI p1, jI p0, jR (some 76)]) (by rw [show ((if (jw v55) = 2 then 2 else 1) : Int) = 2 from (if_pos q70)]) (K69 (jup (jlf (jla 0 [jR (some 76), jI p0, jI p1, jI p2])) 4 (jI (m 76 53))) rfl rfl rfl (jup_pi (lv := (jlf (jla 0 [jR (some 76), jI p0, jI p1, jI p2]))) (j := 3) (v := jI (m 76 53)) (z := p2) rfl) rfl)
    · refine ey_cne (cd_285 rfl) rfl rfl (show jw 2 = 2 from by decide) q70 ?_
      refine ey_iconst (cd_285 rfl) ?_
      exact ey_rs (s0 := [jI 1, jI p0, jR (some 76), jI p1, jI p0, jR (some 76)]) (s1 := [jI (if (jw v55) = 2 then 2 else 1), jI p0, jR (some 76), jI p1, jI p0, jR (some 76)]) (by rw [show ((if (jw v55) = 2 then 2 else 1) : Int) = 1 from (if_neg q70)]) (K69 (jup (jlf (jla 0 [jR (some 76), jI p0, jI p1, jI p2])) 4 (jI (m 76 53))) rfl rfl rfl (jup_pi (lv := (jlf (jla 0 [jR (some 76), jI p0, jI p1, jI p2]))) (j := 3) (v := jI (m 76 53)) (z := p2) rfl) rfl)
theorem cd_286 {pc : Nat} {i : Instr × Nat} (h : mm_lk mm_c286 pc = some i) : mm_cd 286 pc = some i := h
theorem mt_286 : mm_MT 286 = (12, 7, none, 1, 0, []) := rfl
set_option maxRecDepth 100000 in
theorem jk_286_s29 {L : Nat} {xs : Nat → Int32} {b : jH} (hb : 152 ≤ b.1) (h6 : b.1 ≤ 1000000) {x1 : Int} {x2 : Int} {x3 : Int} {x4 : Int} {x5 : Int} {m : jM} {o : ((Int × jM) ⊕ jM)} {r : mm_R} (e : jd_286_s29 x1 x2 x3 x4 x5 m = some o) (K : jsm (fun s => (∀ lv : jL, lv 0 = some (jR (some 76)) → lv 1 = some (jI x1) → lv 2 = some (jI x2) → lv 3 = some (jI x3) → lv 4 = some (jI x4) → lv 5 = some (jI s.1) → ey (mm_xt L xs) 2 286 29 lv [] (jhm b s.2) r)) (fun x => (∀ lv : jL, lv 0 = some (jR (some 76)) → lv 1 = some (jI x1) → lv 2 = some (jI x2) → lv 3 = some (jI x3) → lv 4 = some (jI x4) → ey (mm_xt L xs) 2 286 74 lv [] (jhm b x) r)) o) : ∀ lv : jL, lv 0 = some (jR (some 76)) → lv 1 = some (jI x1) → lv 2 = some (jI x2) → lv 3 = some (jI x3) → lv 4 = some (jI x4) → lv 5 = some (jI x5) → ey (mm_xt L xs) 2 286 29 lv [] (jhm b m) r := by
  intro lv f0 f1 f2 f3 f4 f5
  unfold jd_286_s29 at e
  refine ey_iload (cd_286 rfl) f5 ?_
  refine ey_iload_n (cd_286 rfl) f3 ?_
  refine ey_iload (cd_286 rfl) f4 ?_
  refine ey_imul (cd_286 rfl) ?_
  by_cases q2 : (jw (x3 * x4)) ≤ (jw x5)
  · rw [if_pos q2] at e
    refine ey_cge (cd_286 rfl) rfl rfl rfl q2 ?_
    cases e
    exact K lv f0 f1 f2 f3 f4
  · rw [if_neg q2] at e
    refine ey_nge (cd_286 rfl) rfl rfl rfl q2 ?_
    refine ey_aload_n (cd_286 rfl) f0 ?_
    refine ey_getf_r (cd_286 rfl) mt_286 rfl rfl rfl (jhm_gr (q := 118) hb rfl) ?_
    refine ey_iload (cd_286 rfl) f5 ?_
    refine ey_aload_n (cd_286 rfl) f0 ?_
    refine ey_getf_r (cd_286 rfl) mt_286 rfl rfl rfl (jhm_gr (q := 121) hb rfl) ?_
    refine ey_sipush (cd_286 rfl) (by decide) ?_
    refine ey_aload_n (cd_286 rfl) f0 ?_
    refine ey_getf_r (cd_286 rfl) mt_286 rfl rfl rfl (jhm_gr (q := 103) hb rfl) ?_
    refine ey_iload_n (cd_286 rfl) f1 ?_
    obtain ⟨v3, e4, e⟩ := jbind e
    refine ey_iald (cd_286 rfl) (jhm_ai hb h6 (by decide) rfl e4) ?_
    refine ey_imul (cd_286 rfl) ?_
    refine ey_iload_n (cd_286 rfl) f2 ?_
    refine ey_cs (s0 := [jI x2, jI (864 * v3), jR (some 121), jI x5, jR (some 118)]) (s1 := [jI (864 * v3), jR (some 121), jI x5, jR (some 118)]) (st' := [jI (jd_207 x2), jI (864 * v3), jR (some 121), jI x5, jR (some 118)]) (cd_286 rfl) mt_286 mt_207 rfl (by decide) rfl rfl (jsml_s rfl) rfl (mm_Runs.up (d := 1) (by decide) (ok_207 )) ?_
    refine ey_iadd (cd_286 rfl) ?_
    refine ey_iload (cd_286 rfl) f5 ?_
    refine ey_iadd (cd_286 rfl) ?_
    obtain ⟨v5, e6, e⟩ := jbind e
    refine ey_iald (cd_286 rfl) (jhm_ai hb h6 (by decide) rfl e6) ?_
    obtain ⟨m7, e8, e⟩ := jbind e
    refine ey_iast (cd_286 rfl) (jhm_ta hb (by decide) rfl e8) ?_
    refine ey_iinc (cd_286 rfl) mt_286 rfl f5 ?_
    refine ey_goto (cd_286 rfl) rfl ?_
    cases e
    exact K (jup lv 5 (jI (x5 + 1))) f0 f1 f2 f3 (jup_pi (lv := lv) (j := 4) (v := jI (x5 + 1)) (z := x4) f4) rfl
theorem jk_286_l29 {L : Nat} {xs : Nat → Int32} {b : jH} (hb : 152 ≤ b.1) (h6 : b.1 ≤ 1000000) {x1 : Int} {x2 : Int} {x3 : Int} {x4 : Int} {x5 : Int} {m : jM} {x : jM} {r : mm_R} (e : jd_286_l29 x1 x2 x3 x4 x5 m = some x) (K : (∀ lv : jL, lv 0 = some (jR (some 76)) → lv 1 = some (jI x1) → lv 2 = some (jI x2) → lv 3 = some (jI x3) → lv 4 = some (jI x4) → ey (mm_xt L xs) 2 286 74 lv [] (jhm b x) r)) : ∀ lv : jL, lv 0 = some (jR (some 76)) → lv 1 = some (jI x1) → lv 2 = some (jI x2) → lv 3 = some (jI x3) → lv 4 = some (jI x4) → lv 5 = some (jI x5) → ey (mm_xt L xs) 2 286 29 lv [] (jhm b m) r := by
  unfold jd_286_l29 at e
  exact jlp_ok2 (P := fun s => ∀ lv : jL, lv 0 = some (jR (some 76)) → lv 1 = some (jI x1) → lv 2 = some (jI x2) → lv 3 = some (jI x3) → lv 4 = some (jI x4) → lv 5 = some (jI s.1) → ey (mm_xt L xs) 2 286 29 lv [] (jhm b s.2) r) (Q := fun x => (∀ lv : jL, lv 0 = some (jR (some 76)) → lv 1 = some (jI x1) → lv 2 = some (jI x2) → lv 3 = some (jI x3) → lv 4 = some (jI x4) → ey (mm_xt L xs) 2 286 74 lv [] (jhm b x) r)) (fun s q hq hk => jk_286_s29 hb h6 hq hk) jfu _ x e K
set_option maxRecDepth 100000 in
theorem jk_286_b176 {L : Nat} {xs : Nat → Int32} {b : jH} (hb : 152 ≤ b.1) (h6 : b.1 ≤ 1000000) {x1 : Int} {x2 : Int} {x3 : Int} {x4 : Int} {x5 : Int} {x6 : Int} {m : jM} {o : ((Int × Int × jM) ⊕ (Int × jM))} {r : mm_R} (e : jd_286_b176 x1 x2 x3 x4 x5 x6 m = some o) (K : jsm (fun s => (∀ lv : jL, lv 0 = some (jR (some 76)) → lv 1 = some (jI x1) → lv 2 = some (jI x2) → lv 3 = some (jI x3) → lv 4 = some (jI x4) → lv 5 = some (jI s.1) → lv 6 = some (jI s.2.1) → ey (mm_xt L xs) 2 286 128 lv [] (jhm b s.2.2) r)) (fun x => (∀ lv : jL, lv 0 = some (jR (some 76)) → lv 1 = some (jI x1) → lv 2 = some (jI x2) → lv 5 = some (jI x.1) → ey (mm_xt L xs) 2 286 182 lv [] (jhm b x.2) r)) o) : ∀ lv : jL, lv 0 = some (jR (some 76)) → lv 1 = some (jI x1) → lv 2 = some (jI x2) → lv 3 = some (jI x3) → lv 4 = some (jI x4) → lv 5 = some (jI x5) → lv 6 = some (jI x6) → ey (mm_xt L xs) 2 286 176 lv [] (jhm b m) r := by
  intro lv f0 f1 f2 f3 f4 f5 f6
  unfold jd_286_b176 at e
  refine ey_iinc (cd_286 rfl) mt_286 rfl f6 ?_
  refine ey_goto (cd_286 rfl) rfl ?_
  cases e
  exact K (jup lv 6 (jI (x6 + 1))) f0 f1 f2 f3 f4 (jup_pi (lv := lv) (j := 5) (v := jI (x6 + 1)) (z := x5) f5) rfl
set_option maxRecDepth 100000 in
theorem jk_286_s128 {L : Nat} {xs : Nat → Int32} {b : jH} (hb : 152 ≤ b.1) (h6 : b.1 ≤ 1000000) {x1 : Int} {x2 : Int} {x3 : Int} {x4 : Int} {x5 : Int} {x6 : Int} {m : jM} {o : ((Int × Int × jM) ⊕ (Int × jM))} {r : mm_R} (e : jd_286_s128 x1 x2 x3 x4 x5 x6 m = some o) (K : jsm (fun s => (∀ lv : jL, lv 0 = some (jR (some 76)) → lv 1 = some (jI x1) → lv 2 = some (jI x2) → lv 3 = some (jI x3) → lv 4 = some (jI x4) → lv 5 = some (jI s.1) → lv 6 = some (jI s.2.1) → ey (mm_xt L xs) 2 286 128 lv [] (jhm b s.2.2) r)) (fun x => (∀ lv : jL, lv 0 = some (jR (some 76)) → lv 1 = some (jI x1) → lv 2 = some (jI x2) → lv 5 = some (jI x.1) → ey (mm_xt L xs) 2 286 182 lv [] (jhm b x.2) r)) o) : ∀ lv : jL, lv 0 = some (jR (some 76)) → lv 1 = some (jI x1) → lv 2 = some (jI x2) → lv 3 = some (jI x3) → lv 4 = some (jI x4) → lv 5 = some (jI x5) → lv 6 = some (jI x6) → ey (mm_xt L xs) 2 286 128 lv [] (jhm b m) r := by
  intro lv f0 f1 f2 f3 f4 f5 f6
  unfold jd_286_s128 at e
  refine ey_iload (cd_286 rfl) f6 ?_
  refine ey_iload_n (cd_286 rfl) f3 ?_
  refine ey_iload (cd_286 rfl) f4 ?_
  refine ey_imul (cd_286 rfl) ?_
  by_cases q19 : (jw (x3 * x4)) ≤ (jw x6)
  · rw [if_pos q19] at e
    refine ey_cge (cd_286 rfl) rfl rfl rfl q19 ?_
    cases e
    exact K lv f0 f1 f2 f5
  · rw [if_neg q19] at e
    refine ey_nge (cd_286 rfl) rfl rfl rfl q19 ?_
    refine ey_aload_n (cd_286 rfl) f0 ?_
    refine ey_getf_r (cd_286 rfl) mt_286 rfl rfl rfl (jhm_gr (q := 118) hb rfl) ?_
    refine ey_iload (cd_286 rfl) f6 ?_
    obtain ⟨v20, e21, e⟩ := jbind e
    refine ey_iald (cd_286 rfl) (jhm_ai hb h6 (by decide) rfl e21) ?_
    by_cases q22 : (jw v20) = 0
    · rw [if_pos q22] at e
      refine ey_yne (cd_286 rfl) rfl rfl (fun w => w q22) ?_
      refine ey_iinc (cd_286 rfl) mt_286 rfl f5 ?_
      refine ey_goto (cd_286 rfl) rfl ?_
      exact jk_286_b176 hb h6 e K (jup lv 5 (jI (x5 + 1))) f0 f1 f2 f3 (jup_pi (lv := lv) (j := 4) (v := jI (x5 + 1)) (z := x4) f4) rfl f6
    · rw [if_neg q22] at e
      refine ey_zne (cd_286 rfl) rfl rfl q22 ?_
      refine ey_aload_n (cd_286 rfl) f0 ?_
      refine ey_iload (cd_286 rfl) f5 ?_
      obtain ⟨m23, e24, e⟩ := jbind e
      refine ey_cv (s0 := [jI x5, jR (some 76)]) (s1 := []) (st' := []) (cd_286 rfl) mt_286 mt_234 rfl rfl rfl (jhm_is hb) rfl (jsml_s rfl) rfl (ok_234 hb h6 e24) ?_
      refine ey_aload_n (cd_286 rfl) f0 ?_
      refine ey_aload_n (cd_286 rfl) f0 ?_
      refine ey_getf_r (cd_286 rfl) mt_286 rfl rfl rfl (jhm_gr (q := 118) hb rfl) ?_
      refine ey_iload (cd_286 rfl) f6 ?_
      obtain ⟨v25, e26, e⟩ := jbind e
      refine ey_iald (cd_286 rfl) (jhm_ai hb h6 (by decide) rfl e26) ?_
      refine ey_cs (s0 := [jI v25, jR (some 76)]) (s1 := [jR (some 76)]) (st' := [jI (jd_236 v25), jR (some 76)]) (cd_286 rfl) mt_286 mt_236 rfl (by decide) rfl rfl (jsml_s rfl) rfl (mm_Runs.up (d := 1) (by decide) (ok_236 )) ?_
      obtain ⟨m27, e28, e⟩ := jbind e
      refine ey_cv (s0 := [jI (jd_236 v25), jR (some 76)]) (s1 := []) (st' := []) (cd_286 rfl) mt_286 mt_234 rfl rfl rfl (jhm_is hb) rfl (jsml_s rfl) rfl (ok_234 hb h6 e28) ?_
      refine ey_iconst (cd_286 rfl) ?_
      refine ey_istore (cd_286 rfl) mt_286 rfl ?_
      exact jk_286_b176 hb h6 e K (jup lv 5 (jI 0)) f0 f1 f2 f3 (jup_pi (lv := lv) (j := 4) (v := jI 0) (z := x4) f4) rfl f6
theorem jk_286_l128 {L : Nat} {xs : Nat → Int32} {b : jH} (hb : 152 ≤ b.1) (h6 : b.1 ≤ 1000000) {x1 : Int} {x2 : Int} {x3 : Int} {x4 : Int} {x5 : Int} {x6 : Int} {m : jM} {x : (Int × jM)} {r : mm_R} (e : jd_286_l128 x1 x2 x3 x4 x5 x6 m = some x) (K : (∀ lv : jL, lv 0 = some (jR (some 76)) → lv 1 = some (jI x1) → lv 2 = some (jI x2) → lv 5 = some (jI x.1) → ey (mm_xt L xs) 2 286 182 lv [] (jhm b x.2) r)) : ∀ lv : jL, lv 0 = some (jR (some 76)) → lv 1 = some (jI x1) → lv 2 = some (jI x2) → lv 3 = some (jI x3) → lv 4 = some (jI x4) → lv 5 = some (jI x5) → lv 6 = some (jI x6) → ey (mm_xt L xs) 2 286 128 lv [] (jhm b m) r := by
  unfold jd_286_l128 at e
  exact jlp_ok2 (P := fun s => ∀ lv : jL, lv 0 = some (jR (some 76)) → lv 1 = some (jI x1) → lv 2 = some (jI x2) → lv 3 = some (jI x3) → lv 4 = some (jI x4) → lv 5 = some (jI s.1) → lv 6 = some (jI s.2.1) → ey (mm_xt L xs) 2 286 128 lv [] (jhm b s.2.2) r) (Q := fun x => (∀ lv : jL, lv 0 = some (jR (some 76)) → lv 1 = some (jI x1) → lv 2 = some (jI x2) → lv 5 = some (jI x.1) → ey (mm_xt L xs) 2 286 182 lv [] (jhm b x.2) r)) (fun s q hq hk => jk_286_s128 hb h6 hq hk) jfu _ x e K
set_option maxRecDepth 100000 in
theorem jk_286_b193 {L : Nat} {xs : Nat → Int32} {b : jH} (hb : 152 ≤ b.1) (h6 : b.1 ≤ 1000000) {x1 : Int} {x2 : Int} {m : jM} {o : ((Int × jM) ⊕ jM)} {r : mm_R} (e : jd_286_b193 x1 x2 m = some o) (K : jsm (fun s => (∀ lv : jL, lv 0 = some (jR (some 76)) → lv 1 = some (jI x1) → lv 2 = some (jI s.1) → ey (mm_xt L xs) 2 286 2 lv [] (jhm b s.2) r)) (fun x => (∀ lv : jL, ey (mm_xt L xs) 2 286 199 lv [] (jhm b x) r)) o) : ∀ lv : jL, lv 0 = some (jR (some 76)) → lv 1 = some (jI x1) → lv 2 = some (jI x2) → ey (mm_xt L xs) 2 286 193 lv [] (jhm b m) r := by
  intro lv f0 f1 f2
  unfold jd_286_b193 at e
  refine ey_iinc (cd_286 rfl) mt_286 rfl f2 ?_
  refine ey_goto (cd_286 rfl) rfl ?_
  cases e
  exact K (jup lv 2 (jI (x2 + 1))) f0 (jup_pi (lv := lv) (j := 1) (v := jI (x2 + 1)) (z := x1) f1) rfl
set_option maxRecDepth 100000 in
theorem jk_286_s2 {L : Nat} {xs : Nat → Int32} {b : jH} (hb : 152 ≤ b.1) (h6 : b.1 ≤ 1000000) {x1 : Int} {x2 : Int} {m : jM} {o : ((Int × jM) ⊕ jM)} {r : mm_R} (e : jd_286_s2 x1 x2 m = some o) (K : jsm (fun s => (∀ lv : jL, lv 0 = some (jR (some 76)) → lv 1 = some (jI x1) → lv 2 = some (jI s.1) → ey (mm_xt L xs) 2 286 2 lv [] (jhm b s.2) r)) (fun x => (∀ lv : jL, ey (mm_xt L xs) 2 286 199 lv [] (jhm b x) r)) o) : ∀ lv : jL, lv 0 = some (jR (some 76)) → lv 1 = some (jI x1) → lv 2 = some (jI x2) → ey (mm_xt L xs) 2 286 2 lv [] (jhm b m) r := by
  intro lv f0 f1 f2
  unfold jd_286_s2 at e
  refine ey_iload_n (cd_286 rfl) f2 ?_
  refine ey_iconst (cd_286 rfl) ?_
  by_cases q1 : 3 ≤ (jw x2)
  · rw [if_pos q1] at e
    refine ey_cge (cd_286 rfl) rfl rfl (show jw 3 = 3 from by decide) q1 ?_
    cases e
    exact K lv 
  · rw [if_neg q1] at e
    refine ey_nge (cd_286 rfl) rfl rfl (show jw 3 = 3 from by decide) q1 ?_
    refine ey_aload_n (cd_286 rfl) f0 ?_
    refine ey_getf_i (z := (m 76 33)) (cd_286 rfl) mt_286 rfl rfl rfl (jhm_gi hb 33) ?_
    refine ey_iload_n (cd_286 rfl) f2 ?_
    refine ey_cs (s0 := [jI x2, jI (m 76 33)]) (s1 := []) (st' := [jI (jd_206 (m 76 33) x2)]) (cd_286 rfl) mt_286 mt_206 rfl (by decide) rfl rfl (jsml_s rfl) rfl (mm_Runs.up (d := 1) (by decide) (ok_206 )) ?_
    refine ey_istore_n (cd_286 rfl) mt_286 rfl ?_
    refine ey_aload_n (cd_286 rfl) f0 ?_
    refine ey_getf_i (z := (m 76 34)) (cd_286 rfl) mt_286 rfl rfl rfl (jhm_gi hb 34) ?_
    refine ey_iload_n (cd_286 rfl) (jup_pi (lv := lv) (j := 2) (v := jI (jd_206 (m 76 33) x2)) (z := x2) f2) ?_
    refine ey_cs (s0 := [jI x2, jI (m 76 34)]) (s1 := []) (st' := [jI (jd_206 (m 76 34) x2)]) (cd_286 rfl) mt_286 mt_206 rfl (by decide) rfl rfl (jsml_s rfl) rfl (mm_Runs.up (d := 1) (by decide) (ok_206 )) ?_
    refine ey_istore (cd_286 rfl) mt_286 rfl ?_
    refine ey_iconst (cd_286 rfl) ?_
    refine ey_istore (cd_286 rfl) mt_286 rfl ?_
    obtain ⟨x9, e10, e⟩ := jbind e
    refine jk_286_l29 hb h6 e10 ?_ (jup (jup (jup lv 3 (jI (jd_206 (m 76 33) x2))) 4 (jI (jd_206 (m 76 34) x2))) 5 (jI 0)) f0 f1 (jup_o rfl (jup_o rfl (jup_pi (lv := lv) (j := 2) (v := jI (jd_206 (m 76 33) x2)) (z := x2) f2))) (jup_o rfl (jup_pi (lv := (jup lv 3 (jI (jd_206 (m 76 33) x2)))) (j := 3) (v := jI (jd_206 (m 76 34) x2)) (z := (jd_206 (m 76 33) x2)) rfl)) (jup_pi (lv := (jup (jup lv 3 (jI (jd_206 (m 76 33) x2))) 4 (jI (jd_206 (m 76 34) x2)))) (j := 4) (v := jI 0) (z := (jd_206 (m 76 34) x2)) rfl) rfl
    intro lv g0 g1 g2 g3 g4
    refine ey_aload_n (cd_286 rfl) g0 ?_
    refine ey_iload_n (cd_286 rfl) g3 ?_
    refine ey_iload_n (cd_286 rfl) g3 ?_
    refine ey_iload (cd_286 rfl) g4 ?_
    refine ey_iconst (cd_286 rfl) ?_
    refine ey_iconst (cd_286 rfl) ?_
    obtain ⟨m11, e12, e⟩ := jbind e
    refine ey_cv (s0 := [jI 0, jI 1, jI (jd_206 (m 76 34) x2), jI (jd_206 (m 76 33) x2), jI (jd_206 (m 76 33) x2), jR (some 76)]) (s1 := []) (st' := []) (cd_286 rfl) mt_286 mt_273 rfl rfl rfl (jhm_is hb) rfl (jsml_s rfl) rfl (ok_273 hb h6 e12) ?_
    refine ey_aload_n (cd_286 rfl) g0 ?_
    refine ey_iload_n (cd_286 rfl) g3 ?_
    refine ey_iload_n (cd_286 rfl) g3 ?_
    refine ey_iload (cd_286 rfl) g4 ?_
    refine ey_iconst (cd_286 rfl) ?_
    refine ey_iconst (cd_286 rfl) ?_
    obtain ⟨m13, e14, e⟩ := jbind e
    refine ey_cv (s0 := [jI 0, jI 0, jI (jd_206 (m 76 34) x2), jI (jd_206 (m 76 33) x2), jI (jd_206 (m 76 33) x2), jR (some 76)]) (s1 := []) (st' := []) (cd_286 rfl) mt_286 mt_273 rfl rfl rfl (jhm_is hb) rfl (jsml_s rfl) rfl (ok_273 hb h6 e14) ?_
    refine ey_aload_n (cd_286 rfl) g0 ?_
    refine ey_iload_n (cd_286 rfl) g3 ?_
    refine ey_iload_n (cd_286 rfl) g3 ?_
    refine ey_iconst (cd_286 rfl) ?_
    refine ey_idiv (cd_286 rfl) (by decide) ?_
    refine ey_iload (cd_286 rfl) g4 ?_
    refine ey_iconst (cd_286 rfl) ?_
    refine ey_idiv (cd_286 rfl) (by decide) ?_
    refine ey_iconst (cd_286 rfl) ?_
    refine ey_iconst (cd_286 rfl) ?_
    obtain ⟨m15, e16, e⟩ := jbind e
    refine ey_cv (s0 := [jI 0, jI 1, jI (jdiv (jd_206 (m 76 34) x2) 2), jI (jdiv (jd_206 (m 76 33) x2) 2), jI (jd_206 (m 76 33) x2), jR (some 76)]) (s1 := []) (st' := []) (cd_286 rfl) mt_286 mt_273 rfl rfl rfl (jhm_is hb) rfl (jsml_s rfl) rfl (ok_273 hb h6 e16) ?_
    refine ey_aload_n (cd_286 rfl) g0 ?_
    refine ey_iload_n (cd_286 rfl) g3 ?_
    refine ey_iload_n (cd_286 rfl) g3 ?_
    refine ey_iconst (cd_286 rfl) ?_
    refine ey_idiv (cd_286 rfl) (by decide) ?_
    refine ey_iload (cd_286 rfl) g4 ?_
    refine ey_iconst (cd_286 rfl) ?_
    refine ey_idiv (cd_286 rfl) (by decide) ?_
    refine ey_iconst (cd_286 rfl) ?_
    refine ey_iconst (cd_286 rfl) ?_
    obtain ⟨m17, e18, e⟩ := jbind e
    refine ey_cv (s0 := [jI 0, jI 0, jI (jdiv (jd_206 (m 76 34) x2) 2), jI (jdiv (jd_206 (m 76 33) x2) 2), jI (jd_206 (m 76 33) x2), jR (some 76)]) (s1 := []) (st' := []) (cd_286 rfl) mt_286 mt_273 rfl rfl rfl (jhm_is hb) rfl (jsml_s rfl) rfl (ok_273 hb h6 e18) ?_
    refine ey_iconst (cd_286 rfl) ?_
    refine ey_istore (cd_286 rfl) mt_286 rfl ?_
    refine ey_iconst (cd_286 rfl) ?_
    refine ey_istore (cd_286 rfl) mt_286 rfl ?_
    obtain ⟨x29, e30, e⟩ := jbind e
    refine jk_286_l128 hb h6 e30 ?_ (jup (jup lv 5 (jI 0)) 6 (jI 0)) g0 g1 g2 g3 (jup_o rfl (jup_pi (lv := lv) (j := 4) (v := jI 0) (z := (jd_206 (m 76 34) x2)) g4)) (jup_pi (lv := (jup lv 5 (jI 0))) (j := 5) (v := jI 0) (z := 0) rfl) rfl
    intro lv g0 g1 g2 g5
    refine ey_iload (cd_286 rfl) g5 ?_
    by_cases q31 : (jw x29.1) ≤ 0
    · rw [if_pos q31] at e
      refine ey_zle (cd_286 rfl) rfl rfl q31 ?_
      exact jk_286_b193 hb h6 e K lv g0 g1 g2
    · rw [if_neg q31] at e
      refine ey_yle (cd_286 rfl) rfl rfl q31 ?_
      refine ey_aload_n (cd_286 rfl) g0 ?_
      refine ey_iload (cd_286 rfl) g5 ?_
      obtain ⟨m32, e33, e⟩ := jbind e
      refine ey_cv (s0 := [jI x29.1, jR (some 76)]) (s1 := []) (st' := []) (cd_286 rfl) mt_286 mt_234 rfl rfl rfl (jhm_is hb) rfl (jsml_s rfl) rfl (ok_234 hb h6 e33) ?_
      exact jk_286_b193 hb h6 e K lv g0 g1 g2
theorem jk_286_l2 {L : Nat} {xs : Nat → Int32} {b : jH} (hb : 152 ≤ b.1) (h6 : b.1 ≤ 1000000) {x1 : Int} {x2 : Int} {m : jM} {x : jM} {r : mm_R} (e : jd_286_l2 x1 x2 m = some x) (K : (∀ lv : jL, ey (mm_xt L xs) 2 286 199 lv [] (jhm b x) r)) : ∀ lv : jL, lv 0 = some (jR (some 76)) → lv 1 = some (jI x1) → lv 2 = some (jI x2) → ey (mm_xt L xs) 2 286 2 lv [] (jhm b m) r := by
  unfold jd_286_l2 at e
  exact jlp_ok2 (P := fun s => ∀ lv : jL, lv 0 = some (jR (some 76)) → lv 1 = some (jI x1) → lv 2 = some (jI s.1) → ey (mm_xt L xs) 2 286 2 lv [] (jhm b s.2) r) (Q := fun x => (∀ lv : jL, ey (mm_xt L xs) 2 286 199 lv [] (jhm b x) r)) (fun s q hq hk => jk_286_s2 hb h6 hq hk) jfu _ x e K
set_option maxRecDepth 100000 in
theorem ok_286 {L : Nat} {xs : Nat → Int32} {b : jH} (hb : 152 ≤ b.1) (h6 : b.1 ≤ 1000000) {p0 : Int} {m : jM} {o : jM} (e : jd_286 p0 m = some o) : mm_Runs (mm_xt L xs) 3 286 ([jR (some 76), jI p0].map jcv) (jaH (jhm b m)) (.inl (none, jaH (jhm b o))) := by
  refine ey_run0 _ mt_286 (jsl_s rfl) ?_
  unfold jd_286 at e
  refine ey_iconst (cd_286 rfl) ?_
  refine ey_istore_n (cd_286 rfl) mt_286 rfl ?_
  obtain ⟨x34, e35, e⟩ := jbind e
  refine jk_286_l2 hb h6 e35 ?_ (jup (jlf (jla 0 [jR (some 76), jI p0])) 2 (jI 0)) rfl (jup_pi (lv := (jlf (jla 0 [jR (some 76), jI p0]))) (j := 1) (v := jI 0) (z := p0) rfl) rfl
  intro lv 
  cases e
  exact ey_retv (cd_286 rfl) mt_286 rfl
theorem cd_287 {pc : Nat} {i : Instr × Nat} (h : mm_lk mm_c287 pc = some i) : mm_cd 287 pc = some i := h
theorem mt_287 : mm_MT 287 = (12, 4, some .int, 3, 0, []) := rfl
set_option maxRecDepth 100000 in
theorem ok_287 {L : Nat} {xs : Nat → Int32} {b : jH} (hb : 152 ≤ b.1) (h6 : b.1 ≤ 1000000) {p0 : Int} {p1 : Int} {p2 : Int} {m : jM} {o : Int} (e : jd_287 p0 p1 p2 m = some o) : mm_Runs (mm_xt L xs) 2 287 ([jR (some 76), jI p0, jI p1, jI p2].map jcv) (jaH (jhm b m)) (.inl (some (jcv (jI o)), jaH (jhm b m))) := by
  refine ey_run0 _ mt_287 (jsl_s rfl) ?_
  unfold jd_287 at e
  refine ey_aload_n (cd_287 rfl) rfl ?_
  refine ey_getf_r (cd_287 rfl) mt_287 rfl rfl rfl (jhm_gr (q := 121) hb rfl) ?_
  refine ey_sipush (cd_287 rfl) (by decide) ?_
  refine ey_aload_n (cd_287 rfl) rfl ?_
  refine ey_getf_r (cd_287 rfl) mt_287 rfl rfl rfl (jhm_gr (q := 103) hb rfl) ?_
  refine ey_iload_n (cd_287 rfl) rfl ?_
  obtain ⟨v1, e2, e⟩ := jbind e
  refine ey_iald (cd_287 rfl) (jhm_ai hb h6 (by decide) rfl e2) ?_
  refine ey_imul (cd_287 rfl) ?_
  refine ey_iload_n (cd_287 rfl) rfl ?_
  refine ey_cs (s0 := [jI p1, jI (864 * v1), jR (some 121)]) (s1 := [jI (864 * v1), jR (some 121)]) (st' := [jI (jd_207 p1), jI (864 * v1), jR (some 121)]) (cd_287 rfl) mt_287 mt_207 rfl (by decide) rfl rfl (jsml_s rfl) rfl (ok_207 ) ?_
  refine ey_iadd (cd_287 rfl) ?_
  refine ey_iload_n (cd_287 rfl) rfl ?_
  refine ey_iadd (cd_287 rfl) ?_
  obtain ⟨v3, e4, e⟩ := jbind e
  refine ey_iald (cd_287 rfl) (jhm_ai hb h6 (by decide) rfl e4) ?_
  cases e
  exact ey_reti (cd_287 rfl) mt_287 rfl
theorem cd_288 {pc : Nat} {i : Instr × Nat} (h : mm_lk mm_c288 pc = some i) : mm_cd 288 pc = some i := h
theorem mt_288 : mm_MT 288 = (12, 4, some .int, 3, 0, []) := rfl
set_option maxRecDepth 100000 in
theorem ok_288 {L : Nat} {xs : Nat → Int32} {b : jH} (hb : 152 ≤ b.1) (h6 : b.1 ≤ 1000000) {p0 : Int} {p1 : Int} {p2 : Int} {m : jM} {o : Int} (e : jd_288 p0 p1 p2 m = some o) : mm_Runs (mm_xt L xs) 2 288 ([jR (some 76), jI p0, jI p1, jI p2].map jcv) (jaH (jhm b m)) (.inl (some (jcv (jI o)), jaH (jhm b m))) := by
  refine ey_run0 _ mt_288 (jsl_s rfl) ?_
  unfold jd_288 at e
  refine ey_aload_n (cd_288 rfl) rfl ?_
  refine ey_getf_r (cd_288 rfl) mt_288 rfl rfl rfl (jhm_gr (q := 109) hb rfl) ?_
  refine ey_sipush (cd_288 rfl) (by decide) ?_
  refine ey_aload_n (cd_288 rfl) rfl ?_
  refine ey_iload_n (cd_288 rfl) rfl ?_
  refine ey_iconst (cd_288 rfl) ?_
  obtain ⟨v1, e2, e⟩ := jbind e
  refine ey_cv (s0 := [jI 1, jI p0, jR (some 76), jI 864, jR (some 109)]) (s1 := [jI 864, jR (some 109)]) (st' := [jI v1, jI 864, jR (some 109)]) (cd_288 rfl) mt_288 mt_239 rfl rfl rfl (jhm_is hb) rfl (jsml_s rfl) rfl (ok_239 hb h6 e2) ?_
  refine ey_imul (cd_288 rfl) ?_
  refine ey_iload_n (cd_288 rfl) rfl ?_
  refine ey_cs (s0 := [jI p1, jI (864 * v1), jR (some 109)]) (s1 := [jI (864 * v1), jR (some 109)]) (st' := [jI (jd_207 p1), jI (864 * v1), jR (some 109)]) (cd_288 rfl) mt_288 mt_207 rfl (by decide) rfl rfl (jsml_s rfl) rfl (ok_207 ) ?_
  refine ey_iadd (cd_288 rfl) ?_
  refine ey_iload_n (cd_288 rfl) rfl ?_
  refine ey_iadd (cd_288 rfl) ?_
  obtain ⟨v3, e4, e⟩ := jbind e
  refine ey_iald (cd_288 rfl) (jhm_ai hb h6 (by decide) rfl e4) ?_
  cases e
  exact ey_reti (cd_288 rfl) mt_288 rfl
theorem cd_290 {pc : Nat} {i : Instr × Nat} (h : mm_lk mm_c290 pc = some i) : mm_cd 290 pc = some i := h
theorem mt_290 : mm_MT 290 = (12, 9, some .boolean, 6, 0, []) := rfl
set_option maxRecDepth 100000 in
theorem jk_290_b93 {L : Nat} {xs : Nat → Int32} {b : jH} (hb : 152 ≤ b.1) (h6 : b.1 ≤ 1000000) {y0 : Int} {m : jM} {o : Int} (e : jd_290_b93 y0 m = some o) : ∀ lv : jL, ey (mm_xt L xs) 2 290 93 lv [jI y0] (jhm b m) (.inl (some (jcv (jI o)), jaH (jhm b m))) := by
  intro lv 
  unfold jd_290_b93 at e
  obtain ⟨u14, e15, e⟩ := jbind e
  cases e
  exact ey_retz (cd_290 rfl) mt_290 rfl (jbc_s e15)
set_option maxRecDepth 100000 in
theorem ok_290 {L : Nat} {xs : Nat → Int32} {b : jH} (hb : 152 ≤ b.1) (h6 : b.1 ≤ 1000000) {p0 : Int} {p1 : Int} {p2 : Int} {p3 : Int} {p4 : Int} {p5 : Int} {m : jM} {o : Int} (e : jd_290 p0 p1 p2 p3 p4 p5 m = some o) : mm_Runs (mm_xt L xs) 3 290 ([jR (some 76), jI p0, jI p1, jI p2, jI p3, jI p4, jI p5].map jcv) (jaH (jhm b m)) (.inl (some (jcv (jI o)), jaH (jhm b m))) := by
  refine ey_run0 _ mt_290 (jsl_s rfl) ?_
  unfold jd_290 at e
  refine ey_iload_n (cd_290 rfl) rfl ?_
  refine ey_iload (cd_290 rfl) rfl ?_
  refine ey_iadd (cd_290 rfl) ?_
  refine ey_iconst (cd_290 rfl) ?_
  refine ey_isub (cd_290 rfl) ?_
  refine ey_istore (cd_290 rfl) mt_290 rfl ?_
  refine ey_aload_n (cd_290 rfl) rfl ?_
  refine ey_iload_n (cd_290 rfl) rfl ?_
  refine ey_iload_n (cd_290 rfl) rfl ?_
  refine ey_iload (cd_290 rfl) rfl ?_
  obtain ⟨v1, e2, e⟩ := jbind e
  refine ey_cv (s0 := [jI ((p2 + p4) - 1), jI p1, jI p0, jR (some 76)]) (s1 := []) (st' := [jI v1]) (cd_290 rfl) mt_290 mt_287 rfl rfl rfl (jhm_is hb) rfl (jsml_s rfl) rfl (ok_287 hb h6 e2) ?_
  refine ey_istore (cd_290 rfl) mt_290 rfl ?_
  refine ey_iload (cd_290 rfl) rfl ?_
  by_cases q3 : (jw p3) = 0
  · rw [if_pos q3] at e
    refine ey_yne (cd_290 rfl) rfl rfl (fun w => w q3) ?_
    refine ey_iload (cd_290 rfl) rfl ?_
    refine ey_aload_n (cd_290 rfl) rfl ?_
    refine ey_iload_n (cd_290 rfl) rfl ?_
    refine ey_iload_n (cd_290 rfl) rfl ?_
    refine ey_iload_n (cd_290 rfl) rfl ?_
    obtain ⟨v4, e5, e⟩ := jbind e
    refine ey_cv (s0 := [jI p2, jI p1, jI p0, jR (some 76), jI v1]) (s1 := [jI v1]) (st' := [jI v4, jI v1]) (cd_290 rfl) mt_290 mt_287 rfl rfl rfl (jhm_is hb) rfl (jsml_s rfl) rfl (ok_287 hb h6 e5) ?_
    have K6 : ∀ lv : jL, ey (mm_xt L xs) 2 290 40 lv [jI (if (jw v1) = (jw v4) then 1 else 0)] (jhm b m) (.inl (some (jcv (jI o)), jaH (jhm b m))) := by
      intro lv 
      cases e
      exact ey_retz (cd_290 rfl) mt_290 rfl (jbo_ite (Or.inr rfl) (Or.inl rfl))
    by_cases q7 : (jw v1) = (jw v4)
    · refine ey_nne (cd_290 rfl) rfl rfl rfl (fun w => w q7) ?_
      refine ey_iconst (cd_290 rfl) ?_
      refine ey_goto (cd_290 rfl) rfl ?_
      exact ey_rs (s0 := [jI 1]) (s1 := [jI (if (jw v1) = (jw v4) then 1 else 0)]) (by rw [show ((if (jw v1) = (jw v4) then 1 else 0) : Int) = 1 from (if_pos q7)]) (K6 (jup (jup (jlf (jla 0 [jR (some 76), jI p0, jI p1, jI p2, jI p3, jI p4, jI p5])) 7 (jI ((p2 + p4) - 1))) 8 (jI v1)) )
    · refine ey_cne (cd_290 rfl) rfl rfl rfl q7 ?_
      refine ey_iconst (cd_290 rfl) ?_
      exact ey_rs (s0 := [jI 0]) (s1 := [jI (if (jw v1) = (jw v4) then 1 else 0)]) (by rw [show ((if (jw v1) = (jw v4) then 1 else 0) : Int) = 0 from (if_neg q7)]) (K6 (jup (jup (jlf (jla 0 [jR (some 76), jI p0, jI p1, jI p2, jI p3, jI p4, jI p5])) 7 (jI ((p2 + p4) - 1))) 8 (jI v1)) )
  · rw [if_neg q3] at e
    refine ey_zne (cd_290 rfl) rfl rfl q3 ?_
    refine ey_iload (cd_290 rfl) rfl ?_
    refine ey_iconst (cd_290 rfl) ?_
    by_cases q8 : (jw p3) = 1
    · rw [if_pos q8] at e
      refine ey_nne (cd_290 rfl) rfl rfl (show jw 1 = 1 from by decide) (fun w => w q8) ?_
      refine ey_iload (cd_290 rfl) rfl ?_
      refine ey_aload_n (cd_290 rfl) rfl ?_
      refine ey_iload_n (cd_290 rfl) rfl ?_
      refine ey_iload_n (cd_290 rfl) rfl ?_
      refine ey_iload (cd_290 rfl) (jup_pi (lv := (jup (jlf (jla 0 [jR (some 76), jI p0, jI p1, jI p2, jI p3, jI p4, jI p5])) 7 (jI ((p2 + p4) - 1)))) (j := 7) (v := jI v1) (z := ((p2 + p4) - 1)) rfl) ?_
      obtain ⟨v9, e10, e⟩ := jbind e
      refine ey_cv (s0 := [jI ((p2 + p4) - 1), jI p1, jI p0, jR (some 76), jI v1]) (s1 := [jI v1]) (st' := [jI v9, jI v1]) (cd_290 rfl) mt_290 mt_288 rfl rfl rfl (jhm_is hb) rfl (jsml_s rfl) rfl (ok_288 hb h6 e10) ?_
      have K11 : ∀ lv : jL, ey (mm_xt L xs) 2 290 65 lv [jI (if (jw v1) = (jw v9) then 1 else 0)] (jhm b m) (.inl (some (jcv (jI o)), jaH (jhm b m))) := by
        intro lv 
        cases e
        exact ey_retz (cd_290 rfl) mt_290 rfl (jbo_ite (Or.inr rfl) (Or.inl rfl))
      by_cases q12 : (jw v1) = (jw v9)
      · refine ey_nne (cd_290 rfl) rfl rfl rfl (fun w => w q12) ?_
        refine ey_iconst (cd_290 rfl) ?_
        refine ey_goto (cd_290 rfl) rfl ?_
        exact ey_rs (s0 := [jI 1]) (s1 := [jI (if (jw v1) = (jw v9) then 1 else 0)]) (by rw [show ((if (jw v1) = (jw v9) then 1 else 0) : Int) = 1 from (if_pos q12)]) (K11 (jup (jup (jlf (jla 0 [jR (some 76), jI p0, jI p1, jI p2, jI p3, jI p4, jI p5])) 7 (jI ((p2 + p4) - 1))) 8 (jI v1)) )
      · refine ey_cne (cd_290 rfl) rfl rfl rfl q12 ?_
        refine ey_iconst (cd_290 rfl) ?_
        exact ey_rs (s0 := [jI 0]) (s1 := [jI (if (jw v1) = (jw v9) then 1 else 0)]) (by rw [show ((if (jw v1) = (jw v9) then 1 else 0) : Int) = 0 from (if_neg q12)]) (K11 (jup (jup (jlf (jla 0 [jR (some 76), jI p0, jI p1, jI p2, jI p3, jI p4, jI p5])) 7 (jI ((p2 + p4) - 1))) 8 (jI v1)) )
    · rw [if_neg q8] at e
      refine ey_cne (cd_290 rfl) rfl rfl (show jw 1 = 1 from by decide) q8 ?_
      refine ey_iload (cd_290 rfl) rfl ?_
      refine ey_iconst (cd_290 rfl) ?_
      by_cases q13 : (jw p3) = 3
      · rw [if_pos q13] at e
        refine ey_ceq (cd_290 rfl) rfl rfl (show jw 3 = 3 from by decide) q13 ?_
        refine ey_iconst (cd_290 rfl) ?_
        refine ey_goto (cd_290 rfl) rfl ?_
        exact jk_290_b93 hb h6 e (jup (jup (jlf (jla 0 [jR (some 76), jI p0, jI p1, jI p2, jI p3, jI p4, jI p5])) 7 (jI ((p2 + p4) - 1))) 8 (jI v1)) 
      · rw [if_neg q13] at e
        refine ey_neq (cd_290 rfl) rfl rfl (show jw 3 = 3 from by decide) q13 ?_
        refine ey_iload (cd_290 rfl) rfl ?_
        refine ey_aload_n (cd_290 rfl) rfl ?_
        refine ey_iload_n (cd_290 rfl) rfl ?_
        refine ey_iload_n (cd_290 rfl) rfl ?_
        refine ey_iload (cd_290 rfl) (jup_pi (lv := (jup (jlf (jla 0 [jR (some 76), jI p0, jI p1, jI p2, jI p3, jI p4, jI p5])) 7 (jI ((p2 + p4) - 1)))) (j := 7) (v := jI v1) (z := ((p2 + p4) - 1)) rfl) ?_
        refine ey_iload (cd_290 rfl) (jup_o rfl (jup_pi (lv := (jlf (jla 0 [jR (some 76), jI p0, jI p1, jI p2, jI p3, jI p4, jI p5]))) (j := 6) (v := jI ((p2 + p4) - 1)) (z := p5) rfl)) ?_
        refine ey_isub (cd_290 rfl) ?_
        obtain ⟨v16, e17, e⟩ := jbind e
        refine ey_cv (s0 := [jI (((p2 + p4) - 1) - p5), jI p1, jI p0, jR (some 76), jI v1]) (s1 := [jI v1]) (st' := [jI v16, jI v1]) (cd_290 rfl) mt_290 mt_287 rfl rfl rfl (jhm_is hb) rfl (jsml_s rfl) rfl (ok_287 hb h6 e17) ?_
        have K18 : ∀ lv : jL, ey (mm_xt L xs) 2 290 93 lv [jI (if (jw v1) = (jw v16) then 1 else 0)] (jhm b m) (.inl (some (jcv (jI o)), jaH (jhm b m))) := by
          intro lv 
          exact jk_290_b93 hb h6 e lv 
        by_cases q19 : (jw v1) = (jw v16)
        · refine ey_nne (cd_290 rfl) rfl rfl rfl (fun w => w q19) ?_
          refine ey_iconst (cd_290 rfl) ?_
          refine ey_goto (cd_290 rfl) rfl ?_
          exact ey_rs (s0 := [jI 1]) (s1 := [jI (if (jw v1) = (jw v16) then 1 else 0)]) (by rw [show ((if (jw v1) = (jw v16) then 1 else 0) : Int) = 1 from (if_pos q19)]) (K18 (jup (jup (jlf (jla 0 [jR (some 76), jI p0, jI p1, jI p2, jI p3, jI p4, jI p5])) 7 (jI ((p2 + p4) - 1))) 8 (jI v1)) )
        · refine ey_cne (cd_290 rfl) rfl rfl rfl q19 ?_
          refine ey_iconst (cd_290 rfl) ?_
          exact ey_rs (s0 := [jI 0]) (s1 := [jI (if (jw v1) = (jw v16) then 1 else 0)]) (by rw [show ((if (jw v1) = (jw v16) then 1 else 0) : Int) = 0 from (if_neg q19)]) (K18 (jup (jup (jlf (jla 0 [jR (some 76), jI p0, jI p1, jI p2, jI p3, jI p4, jI p5])) 7 (jI ((p2 + p4) - 1))) 8 (jI v1)) )
theorem cd_289 {pc : Nat} {i : Instr × Nat} (h : mm_lk mm_c289 pc = some i) : mm_cd 289 pc = some i := h
theorem mt_289 : mm_MT 289 = (12, 10, none, 2, 0, []) := rfl
set_option maxRecDepth 100000 in
theorem jk_289_b263 {L : Nat} {xs : Nat → Int32} {b : jH} (hb : 152 ≤ b.1) (h6 : b.1 ≤ 1000000) {x1 : Int} {x2 : Int} {x3 : Int} {x4 : Int} {x5 : Int} {x6 : Int} {m : jM} {o : ((Int × jM) ⊕ jM)} {r : mm_R} (e : jd_289_b263 x1 x2 x3 x4 x5 x6 m = some o) (K : jsm (fun s => (∀ lv : jL, lv 0 = some (jR (some 76)) → lv 1 = some (jI x1) → lv 2 = some (jI x2) → lv 3 = some (jI x3) → lv 4 = some (jI x4) → lv 5 = some (jI x5) → lv 6 = some (jI s.1) → ey (mm_xt L xs) 3 289 51 lv [] (jhm b s.2) r)) (fun x => (∀ lv : jL, lv 0 = some (jR (some 76)) → lv 1 = some (jI x1) → lv 2 = some (jI x2) → lv 3 = some (jI x3) → lv 4 = some (jI x4) → lv 5 = some (jI x5) → ey (mm_xt L xs) 3 289 269 lv [] (jhm b x) r)) o) : ∀ lv : jL, lv 0 = some (jR (some 76)) → lv 1 = some (jI x1) → lv 2 = some (jI x2) → lv 3 = some (jI x3) → lv 4 = some (jI x4) → lv 5 = some (jI x5) → lv 6 = some (jI x6) → ey (mm_xt L xs) 3 289 263 lv [] (jhm b m) r := by
  intro lv f0 f1 f2 f3 f4 f5 f6
  unfold jd_289_b263 at e
  refine ey_iinc (cd_289 rfl) mt_289 rfl f6 ?_
  refine ey_goto (cd_289 rfl) rfl ?_
  cases e
  exact K (jup lv 6 (jI (x6 + 1))) f0 f1 f2 f3 f4 (jup_pi (lv := lv) (j := 5) (v := jI (x6 + 1)) (z := x5) f5) rfl
set_option maxRecDepth 100000 in
theorem jk_289_b257 {L : Nat} {xs : Nat → Int32} {b : jH} (hb : 152 ≤ b.1) (h6 : b.1 ≤ 1000000) {x1 : Int} {x2 : Int} {x3 : Int} {x4 : Int} {x5 : Int} {x6 : Int} {x7 : Int} {m : jM} {o : ((Int × jM) ⊕ jM)} {r : mm_R} (e : jd_289_b257 x1 x2 x3 x4 x5 x6 x7 m = some o) (K : jsm (fun s => (∀ lv : jL, lv 0 = some (jR (some 76)) → lv 1 = some (jI x1) → lv 2 = some (jI x2) → lv 3 = some (jI x3) → lv 4 = some (jI x4) → lv 5 = some (jI x5) → lv 6 = some (jI x6) → lv 7 = some (jI s.1) → ey (mm_xt L xs) 3 289 90 lv [] (jhm b s.2) r)) (fun x => (∀ lv : jL, lv 0 = some (jR (some 76)) → lv 1 = some (jI x1) → lv 2 = some (jI x2) → lv 3 = some (jI x3) → lv 4 = some (jI x4) → lv 5 = some (jI x5) → lv 6 = some (jI x6) → ey (mm_xt L xs) 3 289 263 lv [] (jhm b x) r)) o) : ∀ lv : jL, lv 0 = some (jR (some 76)) → lv 1 = some (jI x1) → lv 2 = some (jI x2) → lv 3 = some (jI x3) → lv 4 = some (jI x4) → lv 5 = some (jI x5) → lv 6 = some (jI x6) → lv 7 = some (jI x7) → ey (mm_xt L xs) 3 289 257 lv [] (jhm b m) r := by
  intro lv f0 f1 f2 f3 f4 f5 f6 f7
  unfold jd_289_b257 at e
  refine ey_iinc (cd_289 rfl) mt_289 rfl f7 ?_
  refine ey_goto (cd_289 rfl) rfl ?_
  cases e
  exact K (jup lv 7 (jI (x7 + 1))) f0 f1 f2 f3 f4 f5 (jup_pi (lv := lv) (j := 6) (v := jI (x7 + 1)) (z := x6) f6) rfl
set_option maxRecDepth 100000 in
theorem jk_289_b220 {L : Nat} {xs : Nat → Int32} {b : jH} (hb : 152 ≤ b.1) (h6 : b.1 ≤ 1000000) {x1 : Int} {x2 : Int} {x3 : Int} {x4 : Int} {x5 : Int} {x6 : Int} {x7 : Int} {x8 : Int} {y0 : Int} {m : jM} {o : ((Int × jM) ⊕ jM)} {r : mm_R} (e : jd_289_b220 x1 x2 x3 x4 x5 x6 x7 x8 y0 m = some o) (K : jsm (fun s => (∀ lv : jL, lv 0 = some (jR (some 76)) → lv 1 = some (jI x1) → lv 2 = some (jI x2) → lv 3 = some (jI x3) → lv 4 = some (jI x4) → lv 5 = some (jI x5) → lv 6 = some (jI x6) → lv 7 = some (jI s.1) → ey (mm_xt L xs) 3 289 90 lv [] (jhm b s.2) r)) (fun x => (∀ lv : jL, lv 0 = some (jR (some 76)) → lv 1 = some (jI x1) → lv 2 = some (jI x2) → lv 3 = some (jI x3) → lv 4 = some (jI x4) → lv 5 = some (jI x5) → lv 6 = some (jI x6) → ey (mm_xt L xs) 3 289 263 lv [] (jhm b x) r)) o) : ∀ lv : jL, lv 0 = some (jR (some 76)) → lv 1 = some (jI x1) → lv 2 = some (jI x2) → lv 3 = some (jI x3) → lv 4 = some (jI x4) → lv 5 = some (jI x5) → lv 6 = some (jI x6) → lv 7 = some (jI x7) → lv 8 = some (jI x8) → ey (mm_xt L xs) 3 289 220 lv [jI y0] (jhm b m) r := by
  intro lv f0 f1 f2 f3 f4 f5 f6 f7 f8
  unfold jd_289_b220 at e
  refine ey_istore (cd_289 rfl) mt_289 rfl ?_
  refine ey_iload (cd_289 rfl) rfl ?_
  by_cases q28 : (jw y0) = 0
  · rw [if_pos q28] at e
    refine ey_yne (cd_289 rfl) rfl rfl (fun w => w q28) ?_
    refine ey_goto (cd_289 rfl) rfl ?_
    exact jk_289_b257 hb h6 e K (jup lv 9 (jI y0)) f0 f1 f2 f3 f4 f5 f6 f7
  · rw [if_neg q28] at e
    refine ey_zne (cd_289 rfl) rfl rfl q28 ?_
    refine ey_aload_n (cd_289 rfl) f0 ?_
    refine ey_getf_r (cd_289 rfl) mt_289 rfl rfl rfl (jhm_gr (q := 126) hb rfl) ?_
    refine ey_iload (cd_289 rfl) f5 ?_
    refine ey_iload (cd_289 rfl) (jup_pi (lv := lv) (j := 8) (v := jI y0) (z := x8) f8) ?_
    obtain ⟨m29, e30, e⟩ := jbind e
    refine ey_iast (cd_289 rfl) (jhm_ta hb (by decide) rfl e30) ?_
    refine ey_aload_n (cd_289 rfl) f0 ?_
    refine ey_getf_r (cd_289 rfl) mt_289 rfl rfl rfl (jhm_gr (q := 127) hb rfl) ?_
    refine ey_iload (cd_289 rfl) f5 ?_
    refine ey_iload (cd_289 rfl) f6 ?_
    obtain ⟨m31, e32, e⟩ := jbind e
    refine ey_iast (cd_289 rfl) (jhm_ta hb (by decide) rfl e32) ?_
    refine ey_aload_n (cd_289 rfl) f0 ?_
    refine ey_getf_r (cd_289 rfl) mt_289 rfl rfl rfl (jhm_gr (q := 128) hb rfl) ?_
    refine ey_iload (cd_289 rfl) f5 ?_
    refine ey_iload (cd_289 rfl) f7 ?_
    obtain ⟨m33, e34, e⟩ := jbind e
    refine ey_iast (cd_289 rfl) (jhm_ta hb (by decide) rfl e34) ?_
    exact jk_289_b257 hb h6 e K (jup lv 9 (jI y0)) f0 f1 f2 f3 f4 f5 f6 f7
set_option maxRecDepth 100000 in
theorem jk_289_b215 {L : Nat} {xs : Nat → Int32} {b : jH} (hb : 152 ≤ b.1) (h6 : b.1 ≤ 1000000) {x1 : Int} {x2 : Int} {x3 : Int} {x4 : Int} {x5 : Int} {x6 : Int} {x7 : Int} {x8 : Int} {m : jM} {o : ((Int × jM) ⊕ jM)} {r : mm_R} (e : jd_289_b215 x1 x2 x3 x4 x5 x6 x7 x8 m = some o) (K : jsm (fun s => (∀ lv : jL, lv 0 = some (jR (some 76)) → lv 1 = some (jI x1) → lv 2 = some (jI x2) → lv 3 = some (jI x3) → lv 4 = some (jI x4) → lv 5 = some (jI x5) → lv 6 = some (jI x6) → lv 7 = some (jI s.1) → ey (mm_xt L xs) 3 289 90 lv [] (jhm b s.2) r)) (fun x => (∀ lv : jL, lv 0 = some (jR (some 76)) → lv 1 = some (jI x1) → lv 2 = some (jI x2) → lv 3 = some (jI x3) → lv 4 = some (jI x4) → lv 5 = some (jI x5) → lv 6 = some (jI x6) → ey (mm_xt L xs) 3 289 263 lv [] (jhm b x) r)) o) : ∀ lv : jL, lv 0 = some (jR (some 76)) → lv 1 = some (jI x1) → lv 2 = some (jI x2) → lv 3 = some (jI x3) → lv 4 = some (jI x4) → lv 5 = some (jI x5) → lv 6 = some (jI x6) → lv 7 = some (jI x7) → lv 8 = some (jI x8) → ey (mm_xt L xs) 3 289 215 lv [] (jhm b m) r := by
  intro lv f0 f1 f2 f3 f4 f5 f6 f7 f8
  unfold jd_289_b215 at e
  refine ey_iconst (cd_289 rfl) ?_
  refine ey_goto (cd_289 rfl) rfl ?_
  exact jk_289_b220 hb h6 e K lv f0 f1 f2 f3 f4 f5 f6 f7 f8
set_option maxRecDepth 100000 in
theorem jk_289_b154 {L : Nat} {xs : Nat → Int32} {b : jH} (hb : 152 ≤ b.1) (h6 : b.1 ≤ 1000000) {x1 : Int} {x2 : Int} {x3 : Int} {x4 : Int} {x5 : Int} {x6 : Int} {x7 : Int} {y0 : Int} {y1 : Int} {m : jM} {o : ((Int × jM) ⊕ jM)} {r : mm_R} (e : jd_289_b154 x1 x2 x3 x4 x5 x6 x7 y0 y1 m = some o) (K : jsm (fun s => (∀ lv : jL, lv 0 = some (jR (some 76)) → lv 1 = some (jI x1) → lv 2 = some (jI x2) → lv 3 = some (jI x3) → lv 4 = some (jI x4) → lv 5 = some (jI x5) → lv 6 = some (jI x6) → lv 7 = some (jI s.1) → ey (mm_xt L xs) 3 289 90 lv [] (jhm b s.2) r)) (fun x => (∀ lv : jL, lv 0 = some (jR (some 76)) → lv 1 = some (jI x1) → lv 2 = some (jI x2) → lv 3 = some (jI x3) → lv 4 = some (jI x4) → lv 5 = some (jI x5) → lv 6 = some (jI x6) → ey (mm_xt L xs) 3 289 263 lv [] (jhm b x) r)) o) : ∀ lv : jL, lv 0 = some (jR (some 76)) → lv 1 = some (jI x1) → lv 2 = some (jI x2) → lv 3 = some (jI x3) → lv 4 = some (jI x4) → lv 5 = some (jI x5) → lv 6 = some (jI x6) → lv 7 = some (jI x7) → ey (mm_xt L xs) 3 289 154 lv [jI y0, jI y1] (jhm b m) r := by
  intro lv f0 f1 f2 f3 f4 f5 f6 f7
  unfold jd_289_b154 at e
  refine ey_iadd (cd_289 rfl) ?_
  refine ey_aload_n (cd_289 rfl) f0 ?_
  refine ey_getf_r (cd_289 rfl) mt_289 rfl rfl rfl (jhm_gr (q := 126) hb rfl) ?_
  refine ey_iload (cd_289 rfl) f5 ?_
  refine ey_iload (cd_289 rfl) f7 ?_
  refine ey_iadd (cd_289 rfl) ?_
  obtain ⟨v23, e24, e⟩ := jbind e
  refine ey_iald (cd_289 rfl) (jhm_ai hb h6 (by decide) rfl e24) ?_
  refine ey_iadd (cd_289 rfl) ?_
  refine ey_istore (cd_289 rfl) mt_289 rfl ?_
  refine ey_aload_n (cd_289 rfl) f0 ?_
  refine ey_getf_r (cd_289 rfl) mt_289 rfl rfl rfl (jhm_gr (q := 126) hb rfl) ?_
  refine ey_iload (cd_289 rfl) f5 ?_
  obtain ⟨v25, e26, e⟩ := jbind e
  refine ey_iald (cd_289 rfl) (jhm_ai hb h6 (by decide) rfl e26) ?_
  refine ey_iconst (cd_289 rfl) ?_
  by_cases q27 : (jw v25) = (-1)
  · rw [if_pos q27] at e
    refine ey_ceq (cd_289 rfl) rfl rfl (show jw (-1) = (-1) from by decide) q27 ?_
    exact jk_289_b215 hb h6 e K (jup lv 8 (jI ((y1 + y0) + v23))) f0 f1 f2 f3 f4 f5 f6 (jup_pi (lv := lv) (j := 7) (v := jI ((y1 + y0) + v23)) (z := x7) f7) rfl
  · rw [if_neg q27] at e
    refine ey_neq (cd_289 rfl) rfl rfl (show jw (-1) = (-1) from by decide) q27 ?_
    refine ey_iload (cd_289 rfl) rfl ?_
    refine ey_aload_n (cd_289 rfl) f0 ?_
    refine ey_getf_r (cd_289 rfl) mt_289 rfl rfl rfl (jhm_gr (q := 126) hb rfl) ?_
    refine ey_iload (cd_289 rfl) f5 ?_
    obtain ⟨v35, e36, e⟩ := jbind e
    refine ey_iald (cd_289 rfl) (jhm_ai hb h6 (by decide) rfl e36) ?_
    by_cases q37 : (jw ((y1 + y0) + v23)) < (jw v35)
    · rw [if_pos q37] at e
      refine ey_clt (cd_289 rfl) rfl rfl rfl q37 ?_
      exact jk_289_b215 hb h6 e K (jup lv 8 (jI ((y1 + y0) + v23))) f0 f1 f2 f3 f4 f5 f6 (jup_pi (lv := lv) (j := 7) (v := jI ((y1 + y0) + v23)) (z := x7) f7) rfl
    · rw [if_neg q37] at e
      refine ey_nlt (cd_289 rfl) rfl rfl rfl q37 ?_
      refine ey_iload (cd_289 rfl) rfl ?_
      refine ey_aload_n (cd_289 rfl) f0 ?_
      refine ey_getf_r (cd_289 rfl) mt_289 rfl rfl rfl (jhm_gr (q := 126) hb rfl) ?_
      refine ey_iload (cd_289 rfl) f5 ?_
      obtain ⟨v38, e39, e⟩ := jbind e
      refine ey_iald (cd_289 rfl) (jhm_ai hb h6 (by decide) rfl e39) ?_
      by_cases q40 : (jw ((y1 + y0) + v23)) = (jw v38)
      · rw [if_pos q40] at e
        refine ey_nne (cd_289 rfl) rfl rfl rfl (fun w => w q40) ?_
        refine ey_aload_n (cd_289 rfl) f0 ?_
        refine ey_getf_r (cd_289 rfl) mt_289 rfl rfl rfl (jhm_gr (q := 127) hb rfl) ?_
        refine ey_iload (cd_289 rfl) f5 ?_
        obtain ⟨v41, e42, e⟩ := jbind e
        refine ey_iald (cd_289 rfl) (jhm_ai hb h6 (by decide) rfl e42) ?_
        refine ey_iload (cd_289 rfl) f6 ?_
        have K43 : ∀ lv : jL, lv 0 = some (jR (some 76)) → lv 1 = some (jI x1) → lv 2 = some (jI x2) → lv 3 = some (jI x3) → lv 4 = some (jI x4) → lv 5 = some (jI x5) → lv 6 = some (jI x6) → lv 7 = some (jI x7) → lv 8 = some (jI ((y1 + y0) + v23)) → ey (mm_xt L xs) 3 289 220 lv [jI (if (jw v41) = (jw x6) then 1 else 0)] (jhm b m) r := by
          intro lv g0 g1 g2 g3 g4 g5 g6 g7 g8
          exact jk_289_b220 hb h6 e K lv g0 g1 g2 g3 g4 g5 g6 g7 g8
        by_cases q44 : (jw v41) = (jw x6)
        · refine ey_nne (cd_289 rfl) rfl rfl rfl (fun w => w q44) ?_
          refine ey_iconst (cd_289 rfl) ?_
          refine ey_goto (cd_289 rfl) rfl ?_
          exact ey_rs (s0 := [jI 1]) (s1 := [jI (if (jw v41) = (jw x6) then 1 else 0)]) (by rw [show ((if (jw v41) = (jw x6) then 1 else 0) : Int) = 1 from (if_pos q44)]) (K43 (jup lv 8 (jI ((y1 + y0) + v23))) f0 f1 f2 f3 f4 f5 f6 (jup_pi (lv := lv) (j := 7) (v := jI ((y1 + y0) + v23)) (z := x7) f7) rfl)
        · refine ey_cne (cd_289 rfl) rfl rfl rfl q44 ?_
          refine ey_iconst (cd_289 rfl) ?_
          exact ey_rs (s0 := [jI 0]) (s1 := [jI (if (jw v41) = (jw x6) then 1 else 0)]) (by rw [show ((if (jw v41) = (jw x6) then 1 else 0) : Int) = 0 from (if_neg q44)]) (K43 (jup lv 8 (jI ((y1 + y0) + v23))) f0 f1 f2 f3 f4 f5 f6 (jup_pi (lv := lv) (j := 7) (v := jI ((y1 + y0) + v23)) (z := x7) f7) rfl)
      · rw [if_neg q40] at e
        refine ey_cne (cd_289 rfl) rfl rfl rfl q40 ?_
        refine ey_iconst (cd_289 rfl) ?_
        exact jk_289_b220 hb h6 e K (jup lv 8 (jI ((y1 + y0) + v23))) f0 f1 f2 f3 f4 f5 f6 (jup_pi (lv := lv) (j := 7) (v := jI ((y1 + y0) + v23)) (z := x7) f7) rfl
set_option maxRecDepth 100000 in
theorem jk_289_s90 {L : Nat} {xs : Nat → Int32} {b : jH} (hb : 152 ≤ b.1) (h6 : b.1 ≤ 1000000) {x1 : Int} {x2 : Int} {x3 : Int} {x4 : Int} {x5 : Int} {x6 : Int} {x7 : Int} {m : jM} {o : ((Int × jM) ⊕ jM)} {r : mm_R} (e : jd_289_s90 x1 x2 x3 x4 x5 x6 x7 m = some o) (K : jsm (fun s => (∀ lv : jL, lv 0 = some (jR (some 76)) → lv 1 = some (jI x1) → lv 2 = some (jI x2) → lv 3 = some (jI x3) → lv 4 = some (jI x4) → lv 5 = some (jI x5) → lv 6 = some (jI x6) → lv 7 = some (jI s.1) → ey (mm_xt L xs) 3 289 90 lv [] (jhm b s.2) r)) (fun x => (∀ lv : jL, lv 0 = some (jR (some 76)) → lv 1 = some (jI x1) → lv 2 = some (jI x2) → lv 3 = some (jI x3) → lv 4 = some (jI x4) → lv 5 = some (jI x5) → lv 6 = some (jI x6) → ey (mm_xt L xs) 3 289 263 lv [] (jhm b x) r)) o) : ∀ lv : jL, lv 0 = some (jR (some 76)) → lv 1 = some (jI x1) → lv 2 = some (jI x2) → lv 3 = some (jI x3) → lv 4 = some (jI x4) → lv 5 = some (jI x5) → lv 6 = some (jI x6) → lv 7 = some (jI x7) → ey (mm_xt L xs) 3 289 90 lv [] (jhm b m) r := by
  intro lv f0 f1 f2 f3 f4 f5 f6 f7
  unfold jd_289_s90 at e
  refine ey_iload (cd_289 rfl) f5 ?_
  refine ey_iload (cd_289 rfl) f7 ?_
  refine ey_iadd (cd_289 rfl) ?_
  refine ey_iload (cd_289 rfl) f4 ?_
  by_cases q15 : (jw x4) < (jw (x5 + x7))
  · rw [if_pos q15] at e
    refine ey_cgt (cd_289 rfl) rfl rfl rfl q15 ?_
    cases e
    exact K lv f0 f1 f2 f3 f4 f5 f6
  · rw [if_neg q15] at e
    refine ey_ngt (cd_289 rfl) rfl rfl rfl q15 ?_
    refine ey_aload_n (cd_289 rfl) f0 ?_
    refine ey_iload_n (cd_289 rfl) f1 ?_
    refine ey_iload_n (cd_289 rfl) f2 ?_
    refine ey_iload (cd_289 rfl) f5 ?_
    refine ey_iload (cd_289 rfl) f6 ?_
    refine ey_iload (cd_289 rfl) f7 ?_
    refine ey_iload_n (cd_289 rfl) f3 ?_
    obtain ⟨v16, e17, e⟩ := jbind e
    refine ey_cv (s0 := [jI x3, jI x7, jI x6, jI x5, jI x2, jI x1, jR (some 76)]) (s1 := []) (st' := [jI v16]) (cd_289 rfl) mt_289 mt_290 rfl rfl rfl (jhm_is hb) rfl (jsml_s rfl) rfl (ok_290 hb h6 e17) ?_
    by_cases q18 : (jw v16) = 0
    · rw [if_pos q18] at e
      refine ey_zeq (cd_289 rfl) rfl rfl q18 ?_
      cases e
      exact K lv f0 f1 f2 f3 f4 f5 f6
    · rw [if_neg q18] at e
      refine ey_yeq (cd_289 rfl) rfl rfl q18 ?_
      refine ey_iload (cd_289 rfl) f6 ?_
      obtain ⟨v19, e20, e⟩ := jbind e
      refine ey_cs (s0 := [jI x6]) (s1 := []) (st' := [jI v19]) (cd_289 rfl) mt_289 mt_235 rfl (by decide) rfl rfl (jsml_s rfl) rfl (mm_Runs.up (d := 2) (by decide) (ok_235 e20)) ?_
      refine ey_iload (cd_289 rfl) f7 ?_
      refine ey_iconst (cd_289 rfl) ?_
      refine ey_isub (cd_289 rfl) ?_
      obtain ⟨v21, e22, e⟩ := jbind e
      refine ey_cs (s0 := [jI (x7 - 1), jI v19]) (s1 := [jI v19]) (st' := [jI v21, jI v19]) (cd_289 rfl) mt_289 mt_235 rfl (by decide) rfl rfl (jsml_s rfl) rfl (mm_Runs.up (d := 2) (by decide) (ok_235 e22)) ?_
      refine ey_iadd (cd_289 rfl) ?_
      refine ey_iload (cd_289 rfl) f6 ?_
      have K45 : ∀ lv : jL, lv 0 = some (jR (some 76)) → lv 1 = some (jI x1) → lv 2 = some (jI x2) → lv 3 = some (jI x3) → lv 4 = some (jI x4) → lv 5 = some (jI x5) → lv 6 = some (jI x6) → lv 7 = some (jI x7) → ey (mm_xt L xs) 3 289 154 lv [jI (if (jw x6) = 0 then 8 else (if (jw x6) = 3 then (8 * x7) else 0)), jI (v19 + v21)] (jhm b m) r := by
        intro lv g0 g1 g2 g3 g4 g5 g6 g7
        exact jk_289_b154 hb h6 e K lv g0 g1 g2 g3 g4 g5 g6 g7
      by_cases q46 : (jw x6) = 0
      · refine ey_yne (cd_289 rfl) rfl rfl (fun w => w q46) ?_
        refine ey_bipush (cd_289 rfl) (by decide) ?_
        refine ey_goto (cd_289 rfl) rfl ?_
        exact ey_rs (s0 := [jI 8, jI (v19 + v21)]) (s1 := [jI (if (jw x6) = 0 then 8 else (if (jw x6) = 3 then (8 * x7) else 0)), jI (v19 + v21)]) (by rw [show ((if (jw x6) = 0 then 8 else (if (jw x6) = 3 then (8 * x7) else 0)) : Int) = 8 from (if_pos q46)]) (K45 lv f0 f1 f2 f3 f4 f5 f6 f7)
      · refine ey_zne (cd_289 rfl) rfl rfl q46 ?_
        refine ey_iload (cd_289 rfl) f6 ?_
        refine ey_iconst (cd_289 rfl) ?_
        by_cases q47 : (jw x6) = 3
        · refine ey_nne (cd_289 rfl) rfl rfl (show jw 3 = 3 from by decide) (fun w => w q47) ?_
          refine ey_bipush (cd_289 rfl) (by decide) ?_
          refine ey_iload (cd_289 rfl) f7 ?_
          refine ey_imul (cd_289 rfl) ?_
          refine ey_goto (cd_289 rfl) rfl ?_
          exact ey_rs (s0 := [jI (8 * x7), jI (v19 + v21)]) (s1 := [jI (if (jw x6) = 0 then 8 else (if (jw x6) = 3 then (8 * x7) else 0)), jI (v19 + v21)]) (by rw [show ((if (jw x6) = 0 then 8 else (if (jw x6) = 3 then (8 * x7) else 0)) : Int) = (8 * x7) from ((if_neg q46).trans (if_pos q47))]) (K45 lv f0 f1 f2 f3 f4 f5 f6 f7)
        · refine ey_cne (cd_289 rfl) rfl rfl (show jw 3 = 3 from by decide) q47 ?_
          refine ey_iconst (cd_289 rfl) ?_
          exact ey_rs (s0 := [jI 0, jI (v19 + v21)]) (s1 := [jI (if (jw x6) = 0 then 8 else (if (jw x6) = 3 then (8 * x7) else 0)), jI (v19 + v21)]) (by rw [show ((if (jw x6) = 0 then 8 else (if (jw x6) = 3 then (8 * x7) else 0)) : Int) = 0 from ((if_neg q46).trans (if_neg q47))]) (K45 lv f0 f1 f2 f3 f4 f5 f6 f7)
theorem jk_289_l90 {L : Nat} {xs : Nat → Int32} {b : jH} (hb : 152 ≤ b.1) (h6 : b.1 ≤ 1000000) {x1 : Int} {x2 : Int} {x3 : Int} {x4 : Int} {x5 : Int} {x6 : Int} {x7 : Int} {m : jM} {x : jM} {r : mm_R} (e : jd_289_l90 x1 x2 x3 x4 x5 x6 x7 m = some x) (K : (∀ lv : jL, lv 0 = some (jR (some 76)) → lv 1 = some (jI x1) → lv 2 = some (jI x2) → lv 3 = some (jI x3) → lv 4 = some (jI x4) → lv 5 = some (jI x5) → lv 6 = some (jI x6) → ey (mm_xt L xs) 3 289 263 lv [] (jhm b x) r)) : ∀ lv : jL, lv 0 = some (jR (some 76)) → lv 1 = some (jI x1) → lv 2 = some (jI x2) → lv 3 = some (jI x3) → lv 4 = some (jI x4) → lv 5 = some (jI x5) → lv 6 = some (jI x6) → lv 7 = some (jI x7) → ey (mm_xt L xs) 3 289 90 lv [] (jhm b m) r := by
  unfold jd_289_l90 at e
  exact jlp_ok2 (P := fun s => ∀ lv : jL, lv 0 = some (jR (some 76)) → lv 1 = some (jI x1) → lv 2 = some (jI x2) → lv 3 = some (jI x3) → lv 4 = some (jI x4) → lv 5 = some (jI x5) → lv 6 = some (jI x6) → lv 7 = some (jI s.1) → ey (mm_xt L xs) 3 289 90 lv [] (jhm b s.2) r) (Q := fun x => (∀ lv : jL, lv 0 = some (jR (some 76)) → lv 1 = some (jI x1) → lv 2 = some (jI x2) → lv 3 = some (jI x3) → lv 4 = some (jI x4) → lv 5 = some (jI x5) → lv 6 = some (jI x6) → ey (mm_xt L xs) 3 289 263 lv [] (jhm b x) r)) (fun s q hq hk => jk_289_s90 hb h6 hq hk) jfu _ x e K
set_option maxRecDepth 100000 in
theorem jk_289_b87 {L : Nat} {xs : Nat → Int32} {b : jH} (hb : 152 ≤ b.1) (h6 : b.1 ≤ 1000000) {x1 : Int} {x2 : Int} {x3 : Int} {x4 : Int} {x5 : Int} {x6 : Int} {m : jM} {o : ((Int × jM) ⊕ jM)} {r : mm_R} (e : jd_289_b87 x1 x2 x3 x4 x5 x6 m = some o) (K : jsm (fun s => (∀ lv : jL, lv 0 = some (jR (some 76)) → lv 1 = some (jI x1) → lv 2 = some (jI x2) → lv 3 = some (jI x3) → lv 4 = some (jI x4) → lv 5 = some (jI x5) → lv 6 = some (jI s.1) → ey (mm_xt L xs) 3 289 51 lv [] (jhm b s.2) r)) (fun x => (∀ lv : jL, lv 0 = some (jR (some 76)) → lv 1 = some (jI x1) → lv 2 = some (jI x2) → lv 3 = some (jI x3) → lv 4 = some (jI x4) → lv 5 = some (jI x5) → ey (mm_xt L xs) 3 289 269 lv [] (jhm b x) r)) o) : ∀ lv : jL, lv 0 = some (jR (some 76)) → lv 1 = some (jI x1) → lv 2 = some (jI x2) → lv 3 = some (jI x3) → lv 4 = some (jI x4) → lv 5 = some (jI x5) → lv 6 = some (jI x6) → ey (mm_xt L xs) 3 289 87 lv [] (jhm b m) r := by
  intro lv f0 f1 f2 f3 f4 f5 f6
  unfold jd_289_b87 at e
  refine ey_iconst (cd_289 rfl) ?_
  refine ey_istore (cd_289 rfl) mt_289 rfl ?_
  obtain ⟨x48, e49, e⟩ := jbind e
  refine jk_289_l90 hb h6 e49 ?_ (jup lv 7 (jI 1)) f0 f1 f2 f3 f4 f5 (jup_pi (lv := lv) (j := 6) (v := jI 1) (z := x6) f6) rfl
  intro lv g0 g1 g2 g3 g4 g5 g6
  exact jk_289_b263 hb h6 e K lv g0 g1 g2 g3 g4 g5 g6
set_option maxRecDepth 100000 in
theorem jk_289_b72 {L : Nat} {xs : Nat → Int32} {b : jH} (hb : 152 ≤ b.1) (h6 : b.1 ≤ 1000000) {x1 : Int} {x2 : Int} {x3 : Int} {x4 : Int} {x5 : Int} {x6 : Int} {m : jM} {o : ((Int × jM) ⊕ jM)} {r : mm_R} (e : jd_289_b72 x1 x2 x3 x4 x5 x6 m = some o) (K : jsm (fun s => (∀ lv : jL, lv 0 = some (jR (some 76)) → lv 1 = some (jI x1) → lv 2 = some (jI x2) → lv 3 = some (jI x3) → lv 4 = some (jI x4) → lv 5 = some (jI x5) → lv 6 = some (jI s.1) → ey (mm_xt L xs) 3 289 51 lv [] (jhm b s.2) r)) (fun x => (∀ lv : jL, lv 0 = some (jR (some 76)) → lv 1 = some (jI x1) → lv 2 = some (jI x2) → lv 3 = some (jI x3) → lv 4 = some (jI x4) → lv 5 = some (jI x5) → ey (mm_xt L xs) 3 289 269 lv [] (jhm b x) r)) o) : ∀ lv : jL, lv 0 = some (jR (some 76)) → lv 1 = some (jI x1) → lv 2 = some (jI x2) → lv 3 = some (jI x3) → lv 4 = some (jI x4) → lv 5 = some (jI x5) → lv 6 = some (jI x6) → ey (mm_xt L xs) 3 289 72 lv [] (jhm b m) r := by
  intro lv f0 f1 f2 f3 f4 f5 f6
  unfold jd_289_b72 at e
  refine ey_iload (cd_289 rfl) f6 ?_
  refine ey_iconst (cd_289 rfl) ?_
  by_cases q13 : (jw x6) = 2
  · rw [if_pos q13] at e
    refine ey_nne (cd_289 rfl) rfl rfl (show jw 2 = 2 from by decide) (fun w => w q13) ?_
    refine ey_iload (cd_289 rfl) f5 ?_
    refine ey_iload_n (cd_289 rfl) f3 ?_
    by_cases q14 : (jw x3) ≤ (jw x5)
    · rw [if_pos q14] at e
      refine ey_cge (cd_289 rfl) rfl rfl rfl q14 ?_
      exact jk_289_b87 hb h6 e K lv f0 f1 f2 f3 f4 f5 f6
    · rw [if_neg q14] at e
      refine ey_nge (cd_289 rfl) rfl rfl rfl q14 ?_
      refine ey_goto (cd_289 rfl) rfl ?_
      exact jk_289_b263 hb h6 e K lv f0 f1 f2 f3 f4 f5 f6
  · rw [if_neg q13] at e
    refine ey_cne (cd_289 rfl) rfl rfl (show jw 2 = 2 from by decide) q13 ?_
    exact jk_289_b87 hb h6 e K lv f0 f1 f2 f3 f4 f5 f6
set_option maxRecDepth 100000 in
theorem jk_289_s51 {L : Nat} {xs : Nat → Int32} {b : jH} (hb : 152 ≤ b.1) (h6 : b.1 ≤ 1000000) {x1 : Int} {x2 : Int} {x3 : Int} {x4 : Int} {x5 : Int} {x6 : Int} {m : jM} {o : ((Int × jM) ⊕ jM)} {r : mm_R} (e : jd_289_s51 x1 x2 x3 x4 x5 x6 m = some o) (K : jsm (fun s => (∀ lv : jL, lv 0 = some (jR (some 76)) → lv 1 = some (jI x1) → lv 2 = some (jI x2) → lv 3 = some (jI x3) → lv 4 = some (jI x4) → lv 5 = some (jI x5) → lv 6 = some (jI s.1) → ey (mm_xt L xs) 3 289 51 lv [] (jhm b s.2) r)) (fun x => (∀ lv : jL, lv 0 = some (jR (some 76)) → lv 1 = some (jI x1) → lv 2 = some (jI x2) → lv 3 = some (jI x3) → lv 4 = some (jI x4) → lv 5 = some (jI x5) → ey (mm_xt L xs) 3 289 269 lv [] (jhm b x) r)) o) : ∀ lv : jL, lv 0 = some (jR (some 76)) → lv 1 = some (jI x1) → lv 2 = some (jI x2) → lv 3 = some (jI x3) → lv 4 = some (jI x4) → lv 5 = some (jI x5) → lv 6 = some (jI x6) → ey (mm_xt L xs) 3 289 51 lv [] (jhm b m) r := by
  intro lv f0 f1 f2 f3 f4 f5 f6
  unfold jd_289_s51 at e
  refine ey_iload (cd_289 rfl) f6 ?_
  refine ey_iconst (cd_289 rfl) ?_
  by_cases q8 : 4 ≤ (jw x6)
  · rw [if_pos q8] at e
    refine ey_cge (cd_289 rfl) rfl rfl (show jw 4 = 4 from by decide) q8 ?_
    cases e
    exact K lv f0 f1 f2 f3 f4 f5
  · rw [if_neg q8] at e
    refine ey_nge (cd_289 rfl) rfl rfl (show jw 4 = 4 from by decide) q8 ?_
    refine ey_iload (cd_289 rfl) f6 ?_
    refine ey_iconst (cd_289 rfl) ?_
    by_cases q9 : (jw x6) = 1
    · rw [if_pos q9] at e
      refine ey_nne (cd_289 rfl) rfl rfl (show jw 1 = 1 from by decide) (fun w => w q9) ?_
      refine ey_aload_n (cd_289 rfl) f0 ?_
      refine ey_getf_r (cd_289 rfl) mt_289 rfl rfl rfl (jhm_gr (q := 102) hb rfl) ?_
      refine ey_iload_n (cd_289 rfl) f1 ?_
      obtain ⟨v10, e11, e⟩ := jbind e
      refine ey_iald (cd_289 rfl) (jhm_ai hb h6 (by decide) rfl e11) ?_
      by_cases q12 : (jw v10) = 0
      · rw [if_pos q12] at e
        refine ey_zeq (cd_289 rfl) rfl rfl q12 ?_
        exact jk_289_b263 hb h6 e K lv f0 f1 f2 f3 f4 f5 f6
      · rw [if_neg q12] at e
        refine ey_yeq (cd_289 rfl) rfl rfl q12 ?_
        exact jk_289_b72 hb h6 e K lv f0 f1 f2 f3 f4 f5 f6
    · rw [if_neg q9] at e
      refine ey_cne (cd_289 rfl) rfl rfl (show jw 1 = 1 from by decide) q9 ?_
      exact jk_289_b72 hb h6 e K lv f0 f1 f2 f3 f4 f5 f6
theorem jk_289_l51 {L : Nat} {xs : Nat → Int32} {b : jH} (hb : 152 ≤ b.1) (h6 : b.1 ≤ 1000000) {x1 : Int} {x2 : Int} {x3 : Int} {x4 : Int} {x5 : Int} {x6 : Int} {m : jM} {x : jM} {r : mm_R} (e : jd_289_l51 x1 x2 x3 x4 x5 x6 m = some x) (K : (∀ lv : jL, lv 0 = some (jR (some 76)) → lv 1 = some (jI x1) → lv 2 = some (jI x2) → lv 3 = some (jI x3) → lv 4 = some (jI x4) → lv 5 = some (jI x5) → ey (mm_xt L xs) 3 289 269 lv [] (jhm b x) r)) : ∀ lv : jL, lv 0 = some (jR (some 76)) → lv 1 = some (jI x1) → lv 2 = some (jI x2) → lv 3 = some (jI x3) → lv 4 = some (jI x4) → lv 5 = some (jI x5) → lv 6 = some (jI x6) → ey (mm_xt L xs) 3 289 51 lv [] (jhm b m) r := by
  unfold jd_289_l51 at e
  exact jlp_ok2 (P := fun s => ∀ lv : jL, lv 0 = some (jR (some 76)) → lv 1 = some (jI x1) → lv 2 = some (jI x2) → lv 3 = some (jI x3) → lv 4 = some (jI x4) → lv 5 = some (jI x5) → lv 6 = some (jI s.1) → ey (mm_xt L xs) 3 289 51 lv [] (jhm b s.2) r) (Q := fun x => (∀ lv : jL, lv 0 = some (jR (some 76)) → lv 1 = some (jI x1) → lv 2 = some (jI x2) → lv 3 = some (jI x3) → lv 4 = some (jI x4) → lv 5 = some (jI x5) → ey (mm_xt L xs) 3 289 269 lv [] (jhm b x) r)) (fun s q hq hk => jk_289_s51 hb h6 hq hk) jfu _ x e K
set_option maxRecDepth 100000 in
theorem jk_289_s35 {L : Nat} {xs : Nat → Int32} {b : jH} (hb : 152 ≤ b.1) (h6 : b.1 ≤ 1000000) {x1 : Int} {x2 : Int} {x3 : Int} {x4 : Int} {x5 : Int} {m : jM} {o : ((Int × jM) ⊕ jM)} {r : mm_R} (e : jd_289_s35 x1 x2 x3 x4 x5 m = some o) (K : jsm (fun s => (∀ lv : jL, lv 0 = some (jR (some 76)) → lv 1 = some (jI x1) → lv 2 = some (jI x2) → lv 3 = some (jI x3) → lv 4 = some (jI x4) → lv 5 = some (jI s.1) → ey (mm_xt L xs) 3 289 35 lv [] (jhm b s.2) r)) (fun x => (∀ lv : jL, lv 0 = some (jR (some 76)) → lv 1 = some (jI x1) → lv 2 = some (jI x2) → lv 4 = some (jI x4) → ey (mm_xt L xs) 3 289 275 lv [] (jhm b x) r)) o) : ∀ lv : jL, lv 0 = some (jR (some 76)) → lv 1 = some (jI x1) → lv 2 = some (jI x2) → lv 3 = some (jI x3) → lv 4 = some (jI x4) → lv 5 = some (jI x5) → ey (mm_xt L xs) 3 289 35 lv [] (jhm b m) r := by
  intro lv f0 f1 f2 f3 f4 f5
  unfold jd_289_s35 at e
  refine ey_iload (cd_289 rfl) f5 ?_
  by_cases q5 : (jw x5) < 0
  · rw [if_pos q5] at e
    refine ey_zlt (cd_289 rfl) rfl rfl q5 ?_
    cases e
    exact K lv f0 f1 f2 f4
  · rw [if_neg q5] at e
    refine ey_ylt (cd_289 rfl) rfl rfl q5 ?_
    refine ey_aload_n (cd_289 rfl) f0 ?_
    refine ey_getf_r (cd_289 rfl) mt_289 rfl rfl rfl (jhm_gr (q := 126) hb rfl) ?_
    refine ey_iload (cd_289 rfl) f5 ?_
    refine ey_iconst (cd_289 rfl) ?_
    obtain ⟨m6, e7, e⟩ := jbind e
    refine ey_iast (cd_289 rfl) (jhm_ta hb (by decide) rfl e7) ?_
    refine ey_iconst (cd_289 rfl) ?_
    refine ey_istore (cd_289 rfl) mt_289 rfl ?_
    obtain ⟨x50, e51, e⟩ := jbind e
    refine jk_289_l51 hb h6 e51 ?_ (jup lv 6 (jI 0)) f0 f1 f2 f3 f4 (jup_pi (lv := lv) (j := 5) (v := jI 0) (z := x5) f5) rfl
    intro lv g0 g1 g2 g3 g4 g5
    refine ey_iinc (cd_289 rfl) mt_289 rfl g5 ?_
    refine ey_goto (cd_289 rfl) rfl ?_
    cases e
    exact K (jup lv 5 (jI (x5 + (-1)))) g0 g1 g2 g3 (jup_pi (lv := lv) (j := 4) (v := jI (x5 + (-1))) (z := x4) g4) rfl
theorem jk_289_l35 {L : Nat} {xs : Nat → Int32} {b : jH} (hb : 152 ≤ b.1) (h6 : b.1 ≤ 1000000) {x1 : Int} {x2 : Int} {x3 : Int} {x4 : Int} {x5 : Int} {m : jM} {x : jM} {r : mm_R} (e : jd_289_l35 x1 x2 x3 x4 x5 m = some x) (K : (∀ lv : jL, lv 0 = some (jR (some 76)) → lv 1 = some (jI x1) → lv 2 = some (jI x2) → lv 4 = some (jI x4) → ey (mm_xt L xs) 3 289 275 lv [] (jhm b x) r)) : ∀ lv : jL, lv 0 = some (jR (some 76)) → lv 1 = some (jI x1) → lv 2 = some (jI x2) → lv 3 = some (jI x3) → lv 4 = some (jI x4) → lv 5 = some (jI x5) → ey (mm_xt L xs) 3 289 35 lv [] (jhm b m) r := by
  unfold jd_289_l35 at e
  exact jlp_ok2 (P := fun s => ∀ lv : jL, lv 0 = some (jR (some 76)) → lv 1 = some (jI x1) → lv 2 = some (jI x2) → lv 3 = some (jI x3) → lv 4 = some (jI x4) → lv 5 = some (jI s.1) → ey (mm_xt L xs) 3 289 35 lv [] (jhm b s.2) r) (Q := fun x => (∀ lv : jL, lv 0 = some (jR (some 76)) → lv 1 = some (jI x1) → lv 2 = some (jI x2) → lv 4 = some (jI x4) → ey (mm_xt L xs) 3 289 275 lv [] (jhm b x) r)) (fun s q hq hk => jk_289_s35 hb h6 hq hk) jfu _ x e K
set_option maxRecDepth 100000 in
theorem jk_289_s336 {L : Nat} {xs : Nat → Int32} {b : jH} (hb : 152 ≤ b.1) (h6 : b.1 ≤ 1000000) {x1 : Int} {x2 : Int} {x4 : Int} {x5 : Int} {x6 : Int} {m : jM} {o : ((Int × jM) ⊕ jM)} {r : mm_R} (e : jd_289_s336 x1 x2 x4 x5 x6 m = some o) (K : jsm (fun s => (∀ lv : jL, lv 0 = some (jR (some 76)) → lv 1 = some (jI x1) → lv 2 = some (jI x2) → lv 4 = some (jI x4) → lv 5 = some (jI x5) → lv 6 = some (jI s.1) → ey (mm_xt L xs) 3 289 336 lv [] (jhm b s.2) r)) (fun x => (∀ lv : jL, lv 0 = some (jR (some 76)) → lv 1 = some (jI x1) → lv 2 = some (jI x2) → lv 4 = some (jI x4) → lv 5 = some (jI x5) → ey (mm_xt L xs) 3 289 382 lv [] (jhm b x) r)) o) : ∀ lv : jL, lv 0 = some (jR (some 76)) → lv 1 = some (jI x1) → lv 2 = some (jI x2) → lv 4 = some (jI x4) → lv 5 = some (jI x5) → lv 6 = some (jI x6) → ey (mm_xt L xs) 3 289 336 lv [] (jhm b m) r := by
  intro lv f0 f1 f2 f4 f5 f6
  unfold jd_289_s336 at e
  refine ey_iload (cd_289 rfl) f6 ?_
  refine ey_aload_n (cd_289 rfl) f0 ?_
  refine ey_getf_r (cd_289 rfl) mt_289 rfl rfl rfl (jhm_gr (q := 128) hb rfl) ?_
  refine ey_iload (cd_289 rfl) f5 ?_
  obtain ⟨v70, e71, e⟩ := jbind e
  refine ey_iald (cd_289 rfl) (jhm_ai hb h6 (by decide) rfl e71) ?_
  by_cases q72 : (jw v70) ≤ (jw x6)
  · rw [if_pos q72] at e
    refine ey_cge (cd_289 rfl) rfl rfl rfl q72 ?_
    cases e
    exact K lv f0 f1 f2 f4 f5
  · rw [if_neg q72] at e
    refine ey_nge (cd_289 rfl) rfl rfl rfl q72 ?_
    refine ey_aload_n (cd_289 rfl) f0 ?_
    refine ey_getf_r (cd_289 rfl) mt_289 rfl rfl rfl (jhm_gr (q := 127) hb rfl) ?_
    refine ey_iload (cd_289 rfl) f5 ?_
    obtain ⟨v73, e74, e⟩ := jbind e
    refine ey_iald (cd_289 rfl) (jhm_ai hb h6 (by decide) rfl e74) ?_
    refine ey_iconst (cd_289 rfl) ?_
    by_cases q75 : (jw v73) = 3
    · rw [if_pos q75] at e
      refine ey_nne (cd_289 rfl) rfl rfl (show jw 3 = 3 from by decide) (fun w => w q75) ?_
      refine ey_aload_n (cd_289 rfl) f0 ?_
      refine ey_aload_n (cd_289 rfl) f0 ?_
      refine ey_iload_n (cd_289 rfl) f1 ?_
      refine ey_iload_n (cd_289 rfl) f2 ?_
      refine ey_iload (cd_289 rfl) f5 ?_
      refine ey_iload (cd_289 rfl) f6 ?_
      refine ey_iadd (cd_289 rfl) ?_
      obtain ⟨v76, e77, e⟩ := jbind e
      refine ey_cv (s0 := [jI (x5 + x6), jI x2, jI x1, jR (some 76), jR (some 76)]) (s1 := [jR (some 76)]) (st' := [jI v76, jR (some 76)]) (cd_289 rfl) mt_289 mt_287 rfl rfl rfl (jhm_is hb) rfl (jsml_s rfl) rfl (mm_Runs.up (d := 2) (by decide) (ok_287 hb h6 e77)) ?_
      refine ey_bipush (cd_289 rfl) (by decide) ?_
      obtain ⟨m78, e79, e⟩ := jbind e
      refine ey_cv (s0 := [jI 8, jI v76, jR (some 76)]) (s1 := []) (st' := []) (cd_289 rfl) mt_289 mt_232 rfl rfl rfl (jhm_is hb) rfl (jsml_s rfl) rfl (mm_Runs.up (d := 1) (by decide) (ok_232 hb h6 e79)) ?_
      refine ey_iinc (cd_289 rfl) mt_289 rfl f6 ?_
      refine ey_goto (cd_289 rfl) rfl ?_
      cases e
      exact K (jup lv 6 (jI (x6 + 1))) f0 f1 f2 f4 (jup_pi (lv := lv) (j := 5) (v := jI (x6 + 1)) (z := x5) f5) rfl
    · rw [if_neg q75] at e
      refine ey_cne (cd_289 rfl) rfl rfl (show jw 3 = 3 from by decide) q75 ?_
      cases e
      exact K lv f0 f1 f2 f4 f5
theorem jk_289_l336 {L : Nat} {xs : Nat → Int32} {b : jH} (hb : 152 ≤ b.1) (h6 : b.1 ≤ 1000000) {x1 : Int} {x2 : Int} {x4 : Int} {x5 : Int} {x6 : Int} {m : jM} {x : jM} {r : mm_R} (e : jd_289_l336 x1 x2 x4 x5 x6 m = some x) (K : (∀ lv : jL, lv 0 = some (jR (some 76)) → lv 1 = some (jI x1) → lv 2 = some (jI x2) → lv 4 = some (jI x4) → lv 5 = some (jI x5) → ey (mm_xt L xs) 3 289 382 lv [] (jhm b x) r)) : ∀ lv : jL, lv 0 = some (jR (some 76)) → lv 1 = some (jI x1) → lv 2 = some (jI x2) → lv 4 = some (jI x4) → lv 5 = some (jI x5) → lv 6 = some (jI x6) → ey (mm_xt L xs) 3 289 336 lv [] (jhm b m) r := by
  unfold jd_289_l336 at e
  exact jlp_ok2 (P := fun s => ∀ lv : jL, lv 0 = some (jR (some 76)) → lv 1 = some (jI x1) → lv 2 = some (jI x2) → lv 4 = some (jI x4) → lv 5 = some (jI x5) → lv 6 = some (jI s.1) → ey (mm_xt L xs) 3 289 336 lv [] (jhm b s.2) r) (Q := fun x => (∀ lv : jL, lv 0 = some (jR (some 76)) → lv 1 = some (jI x1) → lv 2 = some (jI x2) → lv 4 = some (jI x4) → lv 5 = some (jI x5) → ey (mm_xt L xs) 3 289 382 lv [] (jhm b x) r)) (fun s q hq hk => jk_289_s336 hb h6 hq hk) jfu _ x e K
set_option maxRecDepth 100000 in
theorem jk_289_b333 {L : Nat} {xs : Nat → Int32} {b : jH} (hb : 152 ≤ b.1) (h6 : b.1 ≤ 1000000) {x1 : Int} {x2 : Int} {x4 : Int} {x5 : Int} {m : jM} {o : ((Int × jM) ⊕ jM)} {r : mm_R} (e : jd_289_b333 x1 x2 x4 x5 m = some o) (K : jsm (fun s => (∀ lv : jL, lv 0 = some (jR (some 76)) → lv 1 = some (jI x1) → lv 2 = some (jI x2) → lv 4 = some (jI x4) → lv 5 = some (jI s.1) → ey (mm_xt L xs) 3 289 278 lv [] (jhm b s.2) r)) (fun x => (∀ lv : jL, ey (mm_xt L xs) 3 289 397 lv [] (jhm b x) r)) o) : ∀ lv : jL, lv 0 = some (jR (some 76)) → lv 1 = some (jI x1) → lv 2 = some (jI x2) → lv 4 = some (jI x4) → lv 5 = some (jI x5) → ey (mm_xt L xs) 3 289 333 lv [] (jhm b m) r := by
  intro lv f0 f1 f2 f4 f5
  unfold jd_289_b333 at e
  refine ey_iconst (cd_289 rfl) ?_
  refine ey_istore (cd_289 rfl) mt_289 rfl ?_
  obtain ⟨x80, e81, e⟩ := jbind e
  refine jk_289_l336 hb h6 e81 ?_ (jup lv 6 (jI 0)) f0 f1 f2 f4 (jup_pi (lv := lv) (j := 5) (v := jI 0) (z := x5) f5) rfl
  intro lv g0 g1 g2 g4 g5
  refine ey_iload (cd_289 rfl) g5 ?_
  refine ey_aload_n (cd_289 rfl) g0 ?_
  refine ey_getf_r (cd_289 rfl) mt_289 rfl rfl rfl (jhm_gr (q := 128) hb rfl) ?_
  refine ey_iload (cd_289 rfl) g5 ?_
  obtain ⟨v82, e83, e⟩ := jbind e
  refine ey_iald (cd_289 rfl) (jhm_ai hb h6 (by decide) rfl e83) ?_
  refine ey_iadd (cd_289 rfl) ?_
  refine ey_istore (cd_289 rfl) mt_289 rfl ?_
  refine ey_goto (cd_289 rfl) rfl ?_
  cases e
  exact K (jup lv 5 (jI (x5 + v82))) g0 g1 g2 (jup_pi (lv := lv) (j := 4) (v := jI (x5 + v82)) (z := x4) g4) rfl
set_option maxRecDepth 100000 in
theorem jk_289_s278 {L : Nat} {xs : Nat → Int32} {b : jH} (hb : 152 ≤ b.1) (h6 : b.1 ≤ 1000000) {x1 : Int} {x2 : Int} {x4 : Int} {x5 : Int} {m : jM} {o : ((Int × jM) ⊕ jM)} {r : mm_R} (e : jd_289_s278 x1 x2 x4 x5 m = some o) (K : jsm (fun s => (∀ lv : jL, lv 0 = some (jR (some 76)) → lv 1 = some (jI x1) → lv 2 = some (jI x2) → lv 4 = some (jI x4) → lv 5 = some (jI s.1) → ey (mm_xt L xs) 3 289 278 lv [] (jhm b s.2) r)) (fun x => (∀ lv : jL, ey (mm_xt L xs) 3 289 397 lv [] (jhm b x) r)) o) : ∀ lv : jL, lv 0 = some (jR (some 76)) → lv 1 = some (jI x1) → lv 2 = some (jI x2) → lv 4 = some (jI x4) → lv 5 = some (jI x5) → ey (mm_xt L xs) 3 289 278 lv [] (jhm b m) r := by
  intro lv f0 f1 f2 f4 f5
  unfold jd_289_s278 at e
  refine ey_iload (cd_289 rfl) f5 ?_
  refine ey_iload (cd_289 rfl) f4 ?_
  by_cases q54 : (jw x4) ≤ (jw x5)
  · rw [if_pos q54] at e
    refine ey_cge (cd_289 rfl) rfl rfl rfl q54 ?_
    cases e
    exact K lv 
  · rw [if_neg q54] at e
    refine ey_nge (cd_289 rfl) rfl rfl rfl q54 ?_
    refine ey_aload_n (cd_289 rfl) f0 ?_
    refine ey_aload_n (cd_289 rfl) f0 ?_
    refine ey_getf_r (cd_289 rfl) mt_289 rfl rfl rfl (jhm_gr (q := 127) hb rfl) ?_
    refine ey_iload (cd_289 rfl) f5 ?_
    obtain ⟨v55, e56, e⟩ := jbind e
    refine ey_iald (cd_289 rfl) (jhm_ai hb h6 (by decide) rfl e56) ?_
    obtain ⟨m57, e58, e⟩ := jbind e
    refine ey_cv (s0 := [jI v55, jR (some 76)]) (s1 := []) (st' := []) (cd_289 rfl) mt_289 mt_234 rfl rfl rfl (jhm_is hb) rfl (jsml_s rfl) rfl (mm_Runs.up (d := 2) (by decide) (ok_234 hb h6 e58)) ?_
    refine ey_aload_n (cd_289 rfl) f0 ?_
    refine ey_aload_n (cd_289 rfl) f0 ?_
    refine ey_getf_r (cd_289 rfl) mt_289 rfl rfl rfl (jhm_gr (q := 128) hb rfl) ?_
    refine ey_iload (cd_289 rfl) f5 ?_
    obtain ⟨v59, e60, e⟩ := jbind e
    refine ey_iald (cd_289 rfl) (jhm_ai hb h6 (by decide) rfl e60) ?_
    refine ey_iconst (cd_289 rfl) ?_
    refine ey_isub (cd_289 rfl) ?_
    obtain ⟨m61, e62, e⟩ := jbind e
    refine ey_cv (s0 := [jI (v59 - 1), jR (some 76)]) (s1 := []) (st' := []) (cd_289 rfl) mt_289 mt_234 rfl rfl rfl (jhm_is hb) rfl (jsml_s rfl) rfl (mm_Runs.up (d := 2) (by decide) (ok_234 hb h6 e62)) ?_
    refine ey_aload_n (cd_289 rfl) f0 ?_
    refine ey_getf_r (cd_289 rfl) mt_289 rfl rfl rfl (jhm_gr (q := 127) hb rfl) ?_
    refine ey_iload (cd_289 rfl) f5 ?_
    obtain ⟨v63, e64, e⟩ := jbind e
    refine ey_iald (cd_289 rfl) (jhm_ai hb h6 (by decide) rfl e64) ?_
    by_cases q65 : (jw v63) = 0
    · rw [if_pos q65] at e
      refine ey_yne (cd_289 rfl) rfl rfl (fun w => w q65) ?_
      refine ey_aload_n (cd_289 rfl) f0 ?_
      refine ey_aload_n (cd_289 rfl) f0 ?_
      refine ey_iload_n (cd_289 rfl) f1 ?_
      refine ey_iload_n (cd_289 rfl) f2 ?_
      refine ey_iload (cd_289 rfl) f5 ?_
      obtain ⟨v66, e67, e⟩ := jbind e
      refine ey_cv (s0 := [jI x5, jI x2, jI x1, jR (some 76), jR (some 76)]) (s1 := [jR (some 76)]) (st' := [jI v66, jR (some 76)]) (cd_289 rfl) mt_289 mt_287 rfl rfl rfl (jhm_is hb) rfl (jsml_s rfl) rfl (mm_Runs.up (d := 2) (by decide) (ok_287 hb h6 e67)) ?_
      refine ey_bipush (cd_289 rfl) (by decide) ?_
      obtain ⟨m68, e69, e⟩ := jbind e
      refine ey_cv (s0 := [jI 8, jI v66, jR (some 76)]) (s1 := []) (st' := []) (cd_289 rfl) mt_289 mt_232 rfl rfl rfl (jhm_is hb) rfl (jsml_s rfl) rfl (mm_Runs.up (d := 1) (by decide) (ok_232 hb h6 e69)) ?_
      exact jk_289_b333 hb h6 e K lv f0 f1 f2 f4 f5
    · rw [if_neg q65] at e
      refine ey_zne (cd_289 rfl) rfl rfl q65 ?_
      exact jk_289_b333 hb h6 e K lv f0 f1 f2 f4 f5
theorem jk_289_l278 {L : Nat} {xs : Nat → Int32} {b : jH} (hb : 152 ≤ b.1) (h6 : b.1 ≤ 1000000) {x1 : Int} {x2 : Int} {x4 : Int} {x5 : Int} {m : jM} {x : jM} {r : mm_R} (e : jd_289_l278 x1 x2 x4 x5 m = some x) (K : (∀ lv : jL, ey (mm_xt L xs) 3 289 397 lv [] (jhm b x) r)) : ∀ lv : jL, lv 0 = some (jR (some 76)) → lv 1 = some (jI x1) → lv 2 = some (jI x2) → lv 4 = some (jI x4) → lv 5 = some (jI x5) → ey (mm_xt L xs) 3 289 278 lv [] (jhm b m) r := by
  unfold jd_289_l278 at e
  exact jlp_ok2 (P := fun s => ∀ lv : jL, lv 0 = some (jR (some 76)) → lv 1 = some (jI x1) → lv 2 = some (jI x2) → lv 4 = some (jI x4) → lv 5 = some (jI s.1) → ey (mm_xt L xs) 3 289 278 lv [] (jhm b s.2) r) (Q := fun x => (∀ lv : jL, ey (mm_xt L xs) 3 289 397 lv [] (jhm b x) r)) (fun s q hq hk => jk_289_s278 hb h6 hq hk) jfu _ x e K
set_option maxRecDepth 100000 in
theorem ok_289 {L : Nat} {xs : Nat → Int32} {b : jH} (hb : 152 ≤ b.1) (h6 : b.1 ≤ 1000000) {p0 : Int} {p1 : Int} {m : jM} {o : jM} (e : jd_289 p0 p1 m = some o) : mm_Runs (mm_xt L xs) 4 289 ([jR (some 76), jI p0, jI p1].map jcv) (jaH (jhm b m)) (.inl (none, jaH (jhm b o))) := by
  refine ey_run0 _ mt_289 (jsl_s rfl) ?_
  unfold jd_289 at e
  refine ey_aload_n (cd_289 rfl) rfl ?_
  refine ey_getf_i (z := (m 76 33)) (cd_289 rfl) mt_289 rfl rfl rfl (jhm_gi hb 33) ?_
  refine ey_iload_n (cd_289 rfl) rfl ?_
  refine ey_cs (s0 := [jI p1, jI (m 76 33)]) (s1 := []) (st' := [jI (jd_206 (m 76 33) p1)]) (cd_289 rfl) mt_289 mt_206 rfl (by decide) rfl rfl (jsml_s rfl) rfl (mm_Runs.up (d := 1) (by decide) (ok_206 )) ?_
  refine ey_istore_n (cd_289 rfl) mt_289 rfl ?_
  refine ey_iload_n (cd_289 rfl) rfl ?_
  refine ey_aload_n (cd_289 rfl) rfl ?_
  refine ey_getf_i (z := (m 76 34)) (cd_289 rfl) mt_289 rfl rfl rfl (jhm_gi hb 34) ?_
  refine ey_iload_n (cd_289 rfl) (jup_pi (lv := (jlf (jla 0 [jR (some 76), jI p0, jI p1]))) (j := 2) (v := jI (jd_206 (m 76 33) p1)) (z := p1) rfl) ?_
  refine ey_cs (s0 := [jI p1, jI (m 76 34), jI (jd_206 (m 76 33) p1)]) (s1 := [jI (jd_206 (m 76 33) p1)]) (st' := [jI (jd_206 (m 76 34) p1), jI (jd_206 (m 76 33) p1)]) (cd_289 rfl) mt_289 mt_206 rfl (by decide) rfl rfl (jsml_s rfl) rfl (mm_Runs.up (d := 1) (by decide) (ok_206 )) ?_
  refine ey_imul (cd_289 rfl) ?_
  obtain ⟨z1, e2, e⟩ := jbind e
  refine ey_rs (s0 := [jI ((jd_206 (m 76 33) p1) * (jd_206 (m 76 34) p1))]) (s1 := [jI z1]) (by rw [show ((jd_206 (m 76 33) p1) * (jd_206 (m 76 34) p1)) = z1 from Option.some.inj e2]) ?_
  refine ey_istore (cd_289 rfl) mt_289 rfl ?_
  refine ey_aload_n (cd_289 rfl) rfl ?_
  refine ey_getf_r (cd_289 rfl) mt_289 rfl rfl rfl (jhm_gr (q := 126) hb rfl) ?_
  refine ey_iload (cd_289 rfl) rfl ?_
  refine ey_iconst (cd_289 rfl) ?_
  obtain ⟨m3, e4, e⟩ := jbind e
  refine ey_iast (cd_289 rfl) (jhm_ta hb (by decide) rfl e4) ?_
  refine ey_iload (cd_289 rfl) rfl ?_
  refine ey_iconst (cd_289 rfl) ?_
  refine ey_isub (cd_289 rfl) ?_
  refine ey_istore (cd_289 rfl) mt_289 rfl ?_
  obtain ⟨x52, e53, e⟩ := jbind e
  refine jk_289_l35 hb h6 e53 ?_ (jup (jup (jup (jlf (jla 0 [jR (some 76), jI p0, jI p1])) 3 (jI (jd_206 (m 76 33) p1))) 4 (jI z1)) 5 (jI (z1 - 1))) rfl rfl (jup_o rfl (jup_o rfl (jup_pi (lv := (jlf (jla 0 [jR (some 76), jI p0, jI p1]))) (j := 2) (v := jI (jd_206 (m 76 33) p1)) (z := p1) rfl))) (jup_o rfl (jup_pi (lv := (jup (jlf (jla 0 [jR (some 76), jI p0, jI p1])) 3 (jI (jd_206 (m 76 33) p1)))) (j := 3) (v := jI z1) (z := (jd_206 (m 76 33) p1)) rfl)) (jup_pi (lv := (jup (jup (jlf (jla 0 [jR (some 76), jI p0, jI p1])) 3 (jI (jd_206 (m 76 33) p1))) 4 (jI z1))) (j := 4) (v := jI (z1 - 1)) (z := z1) rfl) rfl
  intro lv g0 g1 g2 g4
  refine ey_iconst (cd_289 rfl) ?_
  refine ey_istore (cd_289 rfl) mt_289 rfl ?_
  obtain ⟨x84, e85, e⟩ := jbind e
  refine jk_289_l278 hb h6 e85 ?_ (jup lv 5 (jI 0)) g0 g1 g2 (jup_pi (lv := lv) (j := 4) (v := jI 0) (z := z1) g4) rfl
  intro lv 
  cases e
  exact ey_retv (cd_289 rfl) mt_289 rfl
theorem cd_291 {pc : Nat} {i : Instr × Nat} (h : mm_lk mm_c291 pc = some i) : mm_cd 291 pc = some i := h
theorem mt_291 : mm_MT 291 = (12, 4, some .int, 2, 0, []) := rfl
set_option maxRecDepth 100000 in
theorem jk_291_s37 {L : Nat} {xs : Nat → Int32} {b : jH} (hb : 152 ≤ b.1) (h6 : b.1 ≤ 1000000) {x1 : Int} {x2 : Int} {x3 : Int} {m : jM} {o : ((Int × jM) ⊕ jM)} {r : mm_R} (e : jd_291_s37 x1 x2 x3 m = some o) (K : jsm (fun s => (∀ lv : jL, lv 0 = some (jR (some 76)) → lv 1 = some (jI x1) → lv 2 = some (jI x2) → lv 3 = some (jI s.1) → ey (mm_xt L xs) 8 291 37 lv [] (jhm b s.2) r)) (fun x => (∀ lv : jL, lv 0 = some (jR (some 76)) → ey (mm_xt L xs) 8 291 58 lv [] (jhm b x) r)) o) : ∀ lv : jL, lv 0 = some (jR (some 76)) → lv 1 = some (jI x1) → lv 2 = some (jI x2) → lv 3 = some (jI x3) → ey (mm_xt L xs) 8 291 37 lv [] (jhm b m) r := by
  intro lv f0 f1 f2 f3
  unfold jd_291_s37 at e
  refine ey_iload_n (cd_291 rfl) f3 ?_
  refine ey_aload_n (cd_291 rfl) f0 ?_
  refine ey_cv (s0 := [jR (some 76), jI x3]) (s1 := [jI x3]) (st' := [jI (jd_238 m), jI x3]) (cd_291 rfl) mt_291 mt_238 rfl rfl rfl (jhm_is hb) rfl (jsml_s rfl) rfl (mm_Runs.up (d := 1) (by decide) (ok_238 hb h6 )) ?_
  by_cases q8 : (jw (jd_238 m)) ≤ (jw x3)
  · rw [if_pos q8] at e
    refine ey_cge (cd_291 rfl) rfl rfl rfl q8 ?_
    cases e
    exact K lv f0
  · rw [if_neg q8] at e
    refine ey_nge (cd_291 rfl) rfl rfl rfl q8 ?_
    refine ey_aload_n (cd_291 rfl) f0 ?_
    refine ey_iload_n (cd_291 rfl) f1 ?_
    refine ey_iload_n (cd_291 rfl) f3 ?_
    refine ey_iload_n (cd_291 rfl) f2 ?_
    obtain ⟨m9, e10, e⟩ := jbind e
    refine ey_cv (s0 := [jI x2, jI x3, jI x1, jR (some 76)]) (s1 := []) (st' := []) (cd_291 rfl) mt_291 mt_285 rfl rfl rfl (jhm_is hb) rfl (jsml_s rfl) rfl (ok_285 hb h6 e10) ?_
    refine ey_iinc (cd_291 rfl) mt_291 rfl f3 ?_
    refine ey_goto (cd_291 rfl) rfl ?_
    cases e
    exact K (jup lv 3 (jI (x3 + 1))) f0 f1 (jup_pi (lv := lv) (j := 2) (v := jI (x3 + 1)) (z := x2) f2) rfl
theorem jk_291_l37 {L : Nat} {xs : Nat → Int32} {b : jH} (hb : 152 ≤ b.1) (h6 : b.1 ≤ 1000000) {x1 : Int} {x2 : Int} {x3 : Int} {m : jM} {x : jM} {r : mm_R} (e : jd_291_l37 x1 x2 x3 m = some x) (K : (∀ lv : jL, lv 0 = some (jR (some 76)) → ey (mm_xt L xs) 8 291 58 lv [] (jhm b x) r)) : ∀ lv : jL, lv 0 = some (jR (some 76)) → lv 1 = some (jI x1) → lv 2 = some (jI x2) → lv 3 = some (jI x3) → ey (mm_xt L xs) 8 291 37 lv [] (jhm b m) r := by
  unfold jd_291_l37 at e
  exact jlp_ok2 (P := fun s => ∀ lv : jL, lv 0 = some (jR (some 76)) → lv 1 = some (jI x1) → lv 2 = some (jI x2) → lv 3 = some (jI s.1) → ey (mm_xt L xs) 8 291 37 lv [] (jhm b s.2) r) (Q := fun x => (∀ lv : jL, lv 0 = some (jR (some 76)) → ey (mm_xt L xs) 8 291 58 lv [] (jhm b x) r)) (fun s q hq hk => jk_291_s37 hb h6 hq hk) jfu _ x e K
set_option maxRecDepth 100000 in
theorem jk_291_b145 {L : Nat} {xs : Nat → Int32} {b : jH} (hb : 152 ≤ b.1) (h6 : b.1 ≤ 1000000)  {m : jM} {o : (Int × jM)} (e : jd_291_b145  m = some o) : ∀ lv : jL, lv 0 = some (jR (some 76)) → ey (mm_xt L xs) 8 291 145 lv [] (jhm b m) (.inl (some (jcv (jI o.1)), jaH (jhm b o.2))) := by
  intro lv f0
  unfold jd_291_b145 at e
  refine ey_aload_n (cd_291 rfl) f0 ?_
  refine ey_getf_i (z := (m 76 53)) (cd_291 rfl) mt_291 rfl rfl rfl (jhm_gi hb 53) ?_
  refine ey_bipush (cd_291 rfl) (by decide) ?_
  refine ey_iadd (cd_291 rfl) ?_
  refine ey_bipush (cd_291 rfl) (by decide) ?_
  refine ey_idiv (cd_291 rfl) (by decide) ?_
  cases e
  exact ey_reti (cd_291 rfl) mt_291 rfl
set_option maxRecDepth 100000 in
theorem jk_291_s63 {L : Nat} {xs : Nat → Int32} {b : jH} (hb : 152 ≤ b.1) (h6 : b.1 ≤ 1000000) {x1 : Int} {x3 : Int} {m : jM} {o : ((Int × jM) ⊕ jM)} {r : mm_R} (e : jd_291_s63 x1 x3 m = some o) (K : jsm (fun s => (∀ lv : jL, lv 0 = some (jR (some 76)) → lv 1 = some (jI x1) → lv 3 = some (jI s.1) → ey (mm_xt L xs) 8 291 63 lv [] (jhm b s.2) r)) (fun x => (∀ lv : jL, lv 0 = some (jR (some 76)) → lv 1 = some (jI x1) → ey (mm_xt L xs) 8 291 105 lv [] (jhm b x) r)) o) : ∀ lv : jL, lv 0 = some (jR (some 76)) → lv 1 = some (jI x1) → lv 3 = some (jI x3) → ey (mm_xt L xs) 8 291 63 lv [] (jhm b m) r := by
  intro lv f0 f1 f3
  unfold jd_291_s63 at e
  refine ey_iload_n (cd_291 rfl) f3 ?_
  refine ey_sipush (cd_291 rfl) (by decide) ?_
  by_cases q13 : 864 ≤ (jw x3)
  · rw [if_pos q13] at e
    refine ey_cge (cd_291 rfl) rfl rfl (show jw 864 = 864 from by decide) q13 ?_
    cases e
    exact K lv f0 f1
  · rw [if_neg q13] at e
    refine ey_nge (cd_291 rfl) rfl rfl (show jw 864 = 864 from by decide) q13 ?_
    refine ey_aload_n (cd_291 rfl) f0 ?_
    refine ey_getf_r (cd_291 rfl) mt_291 rfl rfl rfl (jhm_gr (q := 109) hb rfl) ?_
    refine ey_sipush (cd_291 rfl) (by decide) ?_
    refine ey_iload_n (cd_291 rfl) f1 ?_
    refine ey_imul (cd_291 rfl) ?_
    refine ey_iload_n (cd_291 rfl) f3 ?_
    refine ey_iadd (cd_291 rfl) ?_
    refine ey_aload_n (cd_291 rfl) f0 ?_
    refine ey_getf_r (cd_291 rfl) mt_291 rfl rfl rfl (jhm_gr (q := 121) hb rfl) ?_
    refine ey_sipush (cd_291 rfl) (by decide) ?_
    refine ey_aload_n (cd_291 rfl) f0 ?_
    refine ey_getf_r (cd_291 rfl) mt_291 rfl rfl rfl (jhm_gr (q := 103) hb rfl) ?_
    refine ey_iload_n (cd_291 rfl) f1 ?_
    obtain ⟨v14, e15, e⟩ := jbind e
    refine ey_iald (cd_291 rfl) (jhm_ai hb h6 (by decide) rfl e15) ?_
    refine ey_imul (cd_291 rfl) ?_
    refine ey_iload_n (cd_291 rfl) f3 ?_
    refine ey_iadd (cd_291 rfl) ?_
    obtain ⟨v16, e17, e⟩ := jbind e
    refine ey_iald (cd_291 rfl) (jhm_ai hb h6 (by decide) rfl e17) ?_
    obtain ⟨m18, e19, e⟩ := jbind e
    refine ey_iast (cd_291 rfl) (jhm_ta hb (by decide) rfl e19) ?_
    refine ey_iinc (cd_291 rfl) mt_291 rfl f3 ?_
    refine ey_goto (cd_291 rfl) rfl ?_
    cases e
    exact K (jup lv 3 (jI (x3 + 1))) f0 f1 rfl
theorem jk_291_l63 {L : Nat} {xs : Nat → Int32} {b : jH} (hb : 152 ≤ b.1) (h6 : b.1 ≤ 1000000) {x1 : Int} {x3 : Int} {m : jM} {x : jM} {r : mm_R} (e : jd_291_l63 x1 x3 m = some x) (K : (∀ lv : jL, lv 0 = some (jR (some 76)) → lv 1 = some (jI x1) → ey (mm_xt L xs) 8 291 105 lv [] (jhm b x) r)) : ∀ lv : jL, lv 0 = some (jR (some 76)) → lv 1 = some (jI x1) → lv 3 = some (jI x3) → ey (mm_xt L xs) 8 291 63 lv [] (jhm b m) r := by
  unfold jd_291_l63 at e
  exact jlp_ok2 (P := fun s => ∀ lv : jL, lv 0 = some (jR (some 76)) → lv 1 = some (jI x1) → lv 3 = some (jI s.1) → ey (mm_xt L xs) 8 291 63 lv [] (jhm b s.2) r) (Q := fun x => (∀ lv : jL, lv 0 = some (jR (some 76)) → lv 1 = some (jI x1) → ey (mm_xt L xs) 8 291 105 lv [] (jhm b x) r)) (fun s q hq hk => jk_291_s63 hb h6 hq hk) jfu _ x e K
set_option maxRecDepth 100000 in
theorem jk_291_s120 {L : Nat} {xs : Nat → Int32} {b : jH} (hb : 152 ≤ b.1) (h6 : b.1 ≤ 1000000) {x1 : Int} {x3 : Int} {m : jM} {o : ((Int × jM) ⊕ jM)} {r : mm_R} (e : jd_291_s120 x1 x3 m = some o) (K : jsm (fun s => (∀ lv : jL, lv 0 = some (jR (some 76)) → lv 1 = some (jI x1) → lv 3 = some (jI s.1) → ey (mm_xt L xs) 8 291 120 lv [] (jhm b s.2) r)) (fun x => (∀ lv : jL, lv 0 = some (jR (some 76)) → ey (mm_xt L xs) 8 291 145 lv [] (jhm b x) r)) o) : ∀ lv : jL, lv 0 = some (jR (some 76)) → lv 1 = some (jI x1) → lv 3 = some (jI x3) → ey (mm_xt L xs) 8 291 120 lv [] (jhm b m) r := by
  intro lv f0 f1 f3
  unfold jd_291_s120 at e
  refine ey_iload_n (cd_291 rfl) f3 ?_
  refine ey_iconst (cd_291 rfl) ?_
  by_cases q25 : 3 ≤ (jw x3)
  · rw [if_pos q25] at e
    refine ey_cge (cd_291 rfl) rfl rfl (show jw 3 = 3 from by decide) q25 ?_
    cases e
    exact K lv f0
  · rw [if_neg q25] at e
    refine ey_nge (cd_291 rfl) rfl rfl (show jw 3 = 3 from by decide) q25 ?_
    refine ey_aload_n (cd_291 rfl) f0 ?_
    refine ey_getf_i (z := (m 76 32)) (cd_291 rfl) mt_291 rfl rfl rfl (jhm_gi hb 32) ?_
    refine ey_iconst (cd_291 rfl) ?_
    by_cases q26 : (jw (m 76 32)) = 2
    · rw [if_pos q26] at e
      refine ey_nne (cd_291 rfl) rfl rfl (show jw 2 = 2 from by decide) (fun w => w q26) ?_
      refine ey_aload_n (cd_291 rfl) f0 ?_
      refine ey_iload_n (cd_291 rfl) f1 ?_
      refine ey_iload_n (cd_291 rfl) f3 ?_
      obtain ⟨m27, e28, e⟩ := jbind e
      refine ey_cv (s0 := [jI x3, jI x1, jR (some 76)]) (s1 := []) (st' := []) (cd_291 rfl) mt_291 mt_289 rfl rfl rfl (jhm_is hb) rfl (jsml_s rfl) rfl (mm_Runs.up (d := 4) (by decide) (ok_289 hb h6 e28)) ?_
      refine ey_iinc (cd_291 rfl) mt_291 rfl f3 ?_
      refine ey_goto (cd_291 rfl) rfl ?_
      cases e
      exact K (jup lv 3 (jI (x3 + 1))) f0 f1 rfl
    · rw [if_neg q26] at e
      refine ey_cne (cd_291 rfl) rfl rfl (show jw 2 = 2 from by decide) q26 ?_
      cases e
      exact K lv f0
theorem jk_291_l120 {L : Nat} {xs : Nat → Int32} {b : jH} (hb : 152 ≤ b.1) (h6 : b.1 ≤ 1000000) {x1 : Int} {x3 : Int} {m : jM} {x : jM} {r : mm_R} (e : jd_291_l120 x1 x3 m = some x) (K : (∀ lv : jL, lv 0 = some (jR (some 76)) → ey (mm_xt L xs) 8 291 145 lv [] (jhm b x) r)) : ∀ lv : jL, lv 0 = some (jR (some 76)) → lv 1 = some (jI x1) → lv 3 = some (jI x3) → ey (mm_xt L xs) 8 291 120 lv [] (jhm b m) r := by
  unfold jd_291_l120 at e
  exact jlp_ok2 (P := fun s => ∀ lv : jL, lv 0 = some (jR (some 76)) → lv 1 = some (jI x1) → lv 3 = some (jI s.1) → ey (mm_xt L xs) 8 291 120 lv [] (jhm b s.2) r) (Q := fun x => (∀ lv : jL, lv 0 = some (jR (some 76)) → ey (mm_xt L xs) 8 291 145 lv [] (jhm b x) r)) (fun s q hq hk => jk_291_s120 hb h6 hq hk) jfu _ x e K
set_option maxRecDepth 100000 in
theorem jk_291_b118 {L : Nat} {xs : Nat → Int32} {b : jH} (hb : 152 ≤ b.1) (h6 : b.1 ≤ 1000000) {x1 : Int} {m : jM} {o : (Int × jM)} (e : jd_291_b118 x1 m = some o) : ∀ lv : jL, lv 0 = some (jR (some 76)) → lv 1 = some (jI x1) → ey (mm_xt L xs) 8 291 118 lv [] (jhm b m) (.inl (some (jcv (jI o.1)), jaH (jhm b o.2))) := by
  intro lv f0 f1
  unfold jd_291_b118 at e
  refine ey_iconst (cd_291 rfl) ?_
  refine ey_istore_n (cd_291 rfl) mt_291 rfl ?_
  obtain ⟨x29, e30, e⟩ := jbind e
  refine jk_291_l120 hb h6 e30 ?_ (jup lv 3 (jI 0)) f0 f1 rfl
  intro lv g0
  exact jk_291_b145 hb h6 e lv g0
set_option maxRecDepth 100000 in
theorem ok_291 {L : Nat} {xs : Nat → Int32} {b : jH} (hb : 152 ≤ b.1) (h6 : b.1 ≤ 1000000) {p0 : Int} {p1 : Int} {m : jM} {o : (Int × jM)} (e : jd_291 p0 p1 m = some o) : mm_Runs (mm_xt L xs) 9 291 ([jR (some 76), jI p0, jI p1].map jcv) (jaH (jhm b m)) (.inl (some (jcv (jI o.1)), jaH (jhm b o.2))) := by
  refine ey_run0 _ mt_291 (jsl_s rfl) ?_
  unfold jd_291 at e
  refine ey_aload_n (cd_291 rfl) rfl ?_
  refine ey_iconst (cd_291 rfl) ?_
  obtain ⟨m1, e2, e⟩ := jbind e
  refine ey_putf_i (cd_291 rfl) mt_291 rfl rfl rfl (jhm_pi' (k := 53) hb e2) ?_
  refine ey_aload_n (cd_291 rfl) rfl ?_
  refine ey_iload_n (cd_291 rfl) rfl ?_
  obtain ⟨m3, e4, e⟩ := jbind e
  refine ey_cv (s0 := [jI p0, jR (some 76)]) (s1 := []) (st' := []) (cd_291 rfl) mt_291 mt_242 rfl rfl rfl (jhm_is hb) rfl (jsml_s rfl) rfl (mm_Runs.up (d := 1) (by decide) (ok_242 hb h6 e4)) ?_
  refine ey_aload_n (cd_291 rfl) rfl ?_
  refine ey_getf_r (cd_291 rfl) mt_291 rfl rfl rfl (jhm_gr (q := 104) hb rfl) ?_
  refine ey_iload_n (cd_291 rfl) rfl ?_
  refine ey_aload_n (cd_291 rfl) rfl ?_
  refine ey_getf_i (z := (m3 76 32)) (cd_291 rfl) mt_291 rfl rfl rfl (jhm_gi hb 32) ?_
  have K31 : ∀ lv : jL, lv 0 = some (jR (some 76)) → lv 1 = some (jI p0) → lv 2 = some (jI p1) → ey (mm_xt L xs) 8 291 27 lv [jI (if (jw (m3 76 32)) = 0 then p1 else 0), jI p0, jR (some 104)] (jhm b m3) (.inl (some (jcv (jI o.1)), jaH (jhm b o.2))) := by
    intro lv g0 g1 g2
    obtain ⟨m5, e6, e⟩ := jbind e
    refine ey_iast (cd_291 rfl) (jhm_ta hb (by decide) rfl e6) ?_
    refine ey_aload_n (cd_291 rfl) g0 ?_
    refine ey_getf_i (z := (m5 76 32)) (cd_291 rfl) mt_291 rfl rfl rfl (jhm_gi hb 32) ?_
    by_cases q7 : (jw (m5 76 32)) = 0
    · rw [if_pos q7] at e
      refine ey_yne (cd_291 rfl) rfl rfl (fun w => w q7) ?_
      refine ey_iconst (cd_291 rfl) ?_
      refine ey_istore_n (cd_291 rfl) mt_291 rfl ?_
      obtain ⟨x11, e12, e⟩ := jbind e
      refine jk_291_l37 hb h6 e12 ?_ (jup lv 3 (jI 0)) g0 g1 (jup_pi (lv := lv) (j := 2) (v := jI 0) (z := p1) g2) rfl
      intro lv g0
      refine ey_goto (cd_291 rfl) rfl ?_
      exact jk_291_b145 hb h6 e lv g0
    · rw [if_neg q7] at e
      refine ey_zne (cd_291 rfl) rfl rfl q7 ?_
      refine ey_iconst (cd_291 rfl) ?_
      refine ey_istore_n (cd_291 rfl) mt_291 rfl ?_
      obtain ⟨x20, e21, e⟩ := jbind e
      refine jk_291_l63 hb h6 e21 ?_ (jup lv 3 (jI 0)) g0 g1 rfl
      intro lv g0 g1
      refine ey_aload_n (cd_291 rfl) g0 ?_
      refine ey_getf_i (z := (x20 76 32)) (cd_291 rfl) mt_291 rfl rfl rfl (jhm_gi hb 32) ?_
      refine ey_iconst (cd_291 rfl) ?_
      by_cases q22 : (jw (x20 76 32)) = 1
      · rw [if_pos q22] at e
        refine ey_nne (cd_291 rfl) rfl rfl (show jw 1 = 1 from by decide) (fun w => w q22) ?_
        refine ey_aload_n (cd_291 rfl) g0 ?_
        refine ey_iload_n (cd_291 rfl) g1 ?_
        obtain ⟨m23, e24, e⟩ := jbind e
        refine ey_cv (s0 := [jI p0, jR (some 76)]) (s1 := []) (st' := []) (cd_291 rfl) mt_291 mt_286 rfl rfl rfl (jhm_is hb) rfl (jsml_s rfl) rfl (mm_Runs.up (d := 3) (by decide) (ok_286 hb h6 e24)) ?_
        exact jk_291_b118 hb h6 e lv g0 g1
      · rw [if_neg q22] at e
        refine ey_cne (cd_291 rfl) rfl rfl (show jw 1 = 1 from by decide) q22 ?_
        exact jk_291_b118 hb h6 e lv g0 g1
  by_cases q32 : (jw (m3 76 32)) = 0
  · refine ey_yne (cd_291 rfl) rfl rfl (fun w => w q32) ?_
    refine ey_iload_n (cd_291 rfl) rfl ?_
    refine ey_goto (cd_291 rfl) rfl ?_
    exact ey_rs (s0 := [jI p1, jI p0, jR (some 104)]) (s1 := [jI (if (jw (m3 76 32)) = 0 then p1 else 0), jI p0, jR (some 104)]) (by rw [show ((if (jw (m3 76 32)) = 0 then p1 else 0) : Int) = p1 from (if_pos q32)]) (K31 (jlf (jla 0 [jR (some 76), jI p0, jI p1])) rfl rfl rfl)
  · refine ey_zne (cd_291 rfl) rfl rfl q32 ?_
    refine ey_iconst (cd_291 rfl) ?_
    exact ey_rs (s0 := [jI 0, jI p0, jR (some 104)]) (s1 := [jI (if (jw (m3 76 32)) = 0 then p1 else 0), jI p0, jR (some 104)]) (by rw [show ((if (jw (m3 76 32)) = 0 then p1 else 0) : Int) = 0 from (if_neg q32)]) (K31 (jlf (jla 0 [jR (some 76), jI p0, jI p1])) rfl rfl rfl)
theorem cd_292 {pc : Nat} {i : Instr × Nat} (h : mm_lk mm_c292 pc = some i) : mm_cd 292 pc = some i := h
theorem mt_292 : mm_MT 292 = (12, 2, none, 1, 0, []) := rfl
set_option maxRecDepth 100000 in
theorem jk_292_b21 {L : Nat} {xs : Nat → Int32} {b : jH} (hb : 152 ≤ b.1) (h6 : b.1 ≤ 1000000)  {m : jM} {o : jM} (e : jd_292_b21  m = some o) : ∀ lv : jL, lv 0 = some (jR (some 76)) → ey (mm_xt L xs) 0 292 21 lv [] (jhm b m) (.inl (none, jaH (jhm b o))) := by
  intro lv f0
  unfold jd_292_b21 at e
  refine ey_aload_n (cd_292 rfl) f0 ?_
  refine ey_dup (cd_292 rfl) rfl ?_
  refine ey_getf_i (z := (m 76 47)) (cd_292 rfl) mt_292 rfl rfl rfl (jhm_gi hb 47) ?_
  refine ey_iconst (cd_292 rfl) ?_
  refine ey_iadd (cd_292 rfl) ?_
  obtain ⟨m2, e3, e⟩ := jbind e
  refine ey_putf_i (cd_292 rfl) mt_292 rfl rfl rfl (jhm_pi' (k := 47) hb e3) ?_
  cases e
  exact ey_retv (cd_292 rfl) mt_292 rfl
set_option maxRecDepth 100000 in
theorem ok_292 {L : Nat} {xs : Nat → Int32} {b : jH} (hb : 152 ≤ b.1) (h6 : b.1 ≤ 1000000) {p0 : Int} {m : jM} {o : jM} (e : jd_292 p0 m = some o) : mm_Runs (mm_xt L xs) 1 292 ([jR (some 76), jI p0].map jcv) (jaH (jhm b m)) (.inl (none, jaH (jhm b o))) := by
  refine ey_run0 _ mt_292 (jsl_s rfl) ?_
  unfold jd_292 at e
  refine ey_aload_n (cd_292 rfl) rfl ?_
  refine ey_getf_i (z := (m 76 47)) (cd_292 rfl) mt_292 rfl rfl rfl (jhm_gi hb 47) ?_
  refine ey_sipush (cd_292 rfl) (by decide) ?_
  by_cases q1 : 24100 ≤ (jw (m 76 47))
  · rw [if_pos q1] at e
    refine ey_cge (cd_292 rfl) rfl rfl (show jw 24100 = 24100 from by decide) q1 ?_
    exact jk_292_b21 hb h6 e (jlf (jla 0 [jR (some 76), jI p0])) rfl
  · rw [if_neg q1] at e
    refine ey_nge (cd_292 rfl) rfl rfl (show jw 24100 = 24100 from by decide) q1 ?_
    refine ey_aload_n (cd_292 rfl) rfl ?_
    refine ey_getf_r (cd_292 rfl) mt_292 rfl rfl rfl (jhm_gr (q := 112) hb rfl) ?_
    refine ey_aload_n (cd_292 rfl) rfl ?_
    refine ey_getf_i (z := (m 76 47)) (cd_292 rfl) mt_292 rfl rfl rfl (jhm_gi hb 47) ?_
    refine ey_iload_n (cd_292 rfl) rfl ?_
    refine ey_i2b (cd_292 rfl) ?_
    obtain ⟨m4, e5, e⟩ := jbind e
    refine ey_bast (cd_292 rfl) (jhm_ta hb (by decide) rfl e5) ?_
    exact jk_292_b21 hb h6 e (jlf (jla 0 [jR (some 76), jI p0])) rfl
theorem cd_293 {pc : Nat} {i : Instr × Nat} (h : mm_lk mm_c293 pc = some i) : mm_cd 293 pc = some i := h
theorem mt_293 : mm_MT 293 = (12, 6, none, 1, 0, []) := rfl
set_option maxRecDepth 100000 in
theorem jk_293_b149 {L : Nat} {xs : Nat → Int32} {b : jH} (hb : 152 ≤ b.1) (h6 : b.1 ≤ 1000000) {x1 : Int} {x2 : Int} {x3 : Int} {m : jM} {o : ((Int × Int × jM) ⊕ jM)} {r : mm_R} (e : jd_293_b149 x1 x2 x3 m = some o) (K : jsm (fun s => (∀ lv : jL, lv 0 = some (jR (some 76)) → lv 1 = some (jI x1) → lv 2 = some (jI s.1) → lv 3 = some (jI s.2.1) → ey (mm_xt L xs) 0 293 14 lv [] (jhm b s.2.2) r)) (fun x => (∀ lv : jL, ey (mm_xt L xs) 0 293 155 lv [] (jhm b x) r)) o) : ∀ lv : jL, lv 0 = some (jR (some 76)) → lv 1 = some (jI x1) → lv 2 = some (jI x2) → lv 3 = some (jI x3) → ey (mm_xt L xs) 0 293 149 lv [] (jhm b m) r := by
  intro lv f0 f1 f2 f3
  unfold jd_293_b149 at e
  refine ey_iinc (cd_293 rfl) mt_293 rfl f3 ?_
  refine ey_goto (cd_293 rfl) rfl ?_
  cases e
  exact K (jup lv 3 (jI (x3 + 1))) f0 f1 (jup_pi (lv := lv) (j := 2) (v := jI (x3 + 1)) (z := x2) f2) rfl
set_option maxRecDepth 100000 in
theorem jk_293_s104 {L : Nat} {xs : Nat → Int32} {b : jH} (hb : 152 ≤ b.1) (h6 : b.1 ≤ 1000000) {x1 : Int} {x3 : Int} {x5 : Int} {m : jM} {o : ((Int × jM) ⊕ jM)} {r : mm_R} (e : jd_293_s104 x1 x3 x5 m = some o) (K : jsm (fun s => (∀ lv : jL, lv 0 = some (jR (some 76)) → lv 1 = some (jI x1) → lv 3 = some (jI x3) → lv 5 = some (jI s.1) → ey (mm_xt L xs) 0 293 104 lv [] (jhm b s.2) r)) (fun x => (∀ lv : jL, lv 0 = some (jR (some 76)) → lv 1 = some (jI x1) → lv 3 = some (jI x3) → ey (mm_xt L xs) 0 293 147 lv [] (jhm b x) r)) o) : ∀ lv : jL, lv 0 = some (jR (some 76)) → lv 1 = some (jI x1) → lv 3 = some (jI x3) → lv 5 = some (jI x5) → ey (mm_xt L xs) 0 293 104 lv [] (jhm b m) r := by
  intro lv f0 f1 f3 f5
  unfold jd_293_s104 at e
  refine ey_iload (cd_293 rfl) f5 ?_
  refine ey_iload_n (cd_293 rfl) f3 ?_
  by_cases q18 : (jw x3) ≤ (jw x5)
  · rw [if_pos q18] at e
    refine ey_cge (cd_293 rfl) rfl rfl rfl q18 ?_
    cases e
    exact K lv f0 f1 f3
  · rw [if_neg q18] at e
    refine ey_nge (cd_293 rfl) rfl rfl rfl q18 ?_
    refine ey_aload_n (cd_293 rfl) f0 ?_
    refine ey_getf_r (cd_293 rfl) mt_293 rfl rfl rfl (jhm_gr (q := 102) hb rfl) ?_
    refine ey_aload_n (cd_293 rfl) f0 ?_
    refine ey_getf_i (z := (m 76 35)) (cd_293 rfl) mt_293 rfl rfl rfl (jhm_gi hb 35) ?_
    refine ey_iconst (cd_293 rfl) ?_
    obtain ⟨m19, e20, e⟩ := jbind e
    refine ey_iast (cd_293 rfl) (jhm_ta hb (by decide) rfl e20) ?_
    refine ey_aload_n (cd_293 rfl) f0 ?_
    refine ey_getf_r (cd_293 rfl) mt_293 rfl rfl rfl (jhm_gr (q := 103) hb rfl) ?_
    refine ey_aload_n (cd_293 rfl) f0 ?_
    refine ey_getf_i (z := (m19 76 35)) (cd_293 rfl) mt_293 rfl rfl rfl (jhm_gi hb 35) ?_
    refine ey_iload (cd_293 rfl) f5 ?_
    obtain ⟨m21, e22, e⟩ := jbind e
    refine ey_iast (cd_293 rfl) (jhm_ta hb (by decide) rfl e22) ?_
    refine ey_aload_n (cd_293 rfl) f0 ?_
    refine ey_dup (cd_293 rfl) rfl ?_
    refine ey_getf_i (z := (m21 76 35)) (cd_293 rfl) mt_293 rfl rfl rfl (jhm_gi hb 35) ?_
    refine ey_iconst (cd_293 rfl) ?_
    refine ey_iadd (cd_293 rfl) ?_
    obtain ⟨m23, e24, e⟩ := jbind e
    refine ey_putf_i (cd_293 rfl) mt_293 rfl rfl rfl (jhm_pi' (k := 35) hb e24) ?_
    refine ey_iinc (cd_293 rfl) mt_293 rfl f5 ?_
    refine ey_goto (cd_293 rfl) rfl ?_
    cases e
    exact K (jup lv 5 (jI (x5 + 1))) f0 f1 f3 rfl
theorem jk_293_l104 {L : Nat} {xs : Nat → Int32} {b : jH} (hb : 152 ≤ b.1) (h6 : b.1 ≤ 1000000) {x1 : Int} {x3 : Int} {x5 : Int} {m : jM} {x : jM} {r : mm_R} (e : jd_293_l104 x1 x3 x5 m = some x) (K : (∀ lv : jL, lv 0 = some (jR (some 76)) → lv 1 = some (jI x1) → lv 3 = some (jI x3) → ey (mm_xt L xs) 0 293 147 lv [] (jhm b x) r)) : ∀ lv : jL, lv 0 = some (jR (some 76)) → lv 1 = some (jI x1) → lv 3 = some (jI x3) → lv 5 = some (jI x5) → ey (mm_xt L xs) 0 293 104 lv [] (jhm b m) r := by
  unfold jd_293_l104 at e
  exact jlp_ok2 (P := fun s => ∀ lv : jL, lv 0 = some (jR (some 76)) → lv 1 = some (jI x1) → lv 3 = some (jI x3) → lv 5 = some (jI s.1) → ey (mm_xt L xs) 0 293 104 lv [] (jhm b s.2) r) (Q := fun x => (∀ lv : jL, lv 0 = some (jR (some 76)) → lv 1 = some (jI x1) → lv 3 = some (jI x3) → ey (mm_xt L xs) 0 293 147 lv [] (jhm b x) r)) (fun s q hq hk => jk_293_s104 hb h6 hq hk) jfu _ x e K
set_option maxRecDepth 100000 in
theorem jk_293_b51 {L : Nat} {xs : Nat → Int32} {b : jH} (hb : 152 ≤ b.1) (h6 : b.1 ≤ 1000000) {x1 : Int} {x2 : Int} {x3 : Int} {y0 : Int} {m : jM} {o : ((Int × Int × jM) ⊕ jM)} {r : mm_R} (e : jd_293_b51 x1 x2 x3 y0 m = some o) (K : jsm (fun s => (∀ lv : jL, lv 0 = some (jR (some 76)) → lv 1 = some (jI x1) → lv 2 = some (jI s.1) → lv 3 = some (jI s.2.1) → ey (mm_xt L xs) 0 293 14 lv [] (jhm b s.2.2) r)) (fun x => (∀ lv : jL, ey (mm_xt L xs) 0 293 155 lv [] (jhm b x) r)) o) : ∀ lv : jL, lv 0 = some (jR (some 76)) → lv 1 = some (jI x1) → lv 2 = some (jI x2) → lv 3 = some (jI x3) → ey (mm_xt L xs) 0 293 51 lv [jI y0] (jhm b m) r := by
  intro lv f0 f1 f2 f3
  unfold jd_293_b51 at e
  refine ey_istore (cd_293 rfl) mt_293 rfl ?_
  refine ey_iload (cd_293 rfl) rfl ?_
  by_cases q11 : (jw y0) = 0
  · rw [if_pos q11] at e
    refine ey_yne (cd_293 rfl) rfl rfl (fun w => w q11) ?_
    refine ey_goto (cd_293 rfl) rfl ?_
    exact jk_293_b149 hb h6 e K (jup lv 4 (jI y0)) f0 f1 f2 (jup_pi (lv := lv) (j := 3) (v := jI y0) (z := x3) f3)
  · rw [if_neg q11] at e
    refine ey_zne (cd_293 rfl) rfl rfl q11 ?_
    refine ey_aload_n (cd_293 rfl) f0 ?_
    refine ey_getf_r (cd_293 rfl) mt_293 rfl rfl rfl (jhm_gr (q := 102) hb rfl) ?_
    refine ey_aload_n (cd_293 rfl) f0 ?_
    refine ey_getf_i (z := (m 76 35)) (cd_293 rfl) mt_293 rfl rfl rfl (jhm_gi hb 35) ?_
    refine ey_iload_n (cd_293 rfl) (jup_pi (lv := lv) (j := 3) (v := jI y0) (z := x3) f3) ?_
    have K27 : ∀ lv : jL, lv 0 = some (jR (some 76)) → lv 1 = some (jI x1) → lv 2 = some (jI x2) → lv 3 = some (jI x3) → ey (mm_xt L xs) 0 293 78 lv [jI (if (jw x3) = 0 then 0 else 1), jI (m 76 35), jR (some 102)] (jhm b m) r := by
      intro lv g0 g1 g2 g3
      obtain ⟨m12, e13, e⟩ := jbind e
      refine ey_iast (cd_293 rfl) (jhm_ta hb (by decide) rfl e13) ?_
      refine ey_aload_n (cd_293 rfl) g0 ?_
      refine ey_getf_r (cd_293 rfl) mt_293 rfl rfl rfl (jhm_gr (q := 103) hb rfl) ?_
      refine ey_aload_n (cd_293 rfl) g0 ?_
      refine ey_getf_i (z := (m12 76 35)) (cd_293 rfl) mt_293 rfl rfl rfl (jhm_gi hb 35) ?_
      refine ey_iload_n (cd_293 rfl) g3 ?_
      obtain ⟨m14, e15, e⟩ := jbind e
      refine ey_iast (cd_293 rfl) (jhm_ta hb (by decide) rfl e15) ?_
      refine ey_aload_n (cd_293 rfl) g0 ?_
      refine ey_dup (cd_293 rfl) rfl ?_
      refine ey_getf_i (z := (m14 76 35)) (cd_293 rfl) mt_293 rfl rfl rfl (jhm_gi hb 35) ?_
      refine ey_iconst (cd_293 rfl) ?_
      refine ey_iadd (cd_293 rfl) ?_
      obtain ⟨m16, e17, e⟩ := jbind e
      refine ey_putf_i (cd_293 rfl) mt_293 rfl rfl rfl (jhm_pi' (k := 35) hb e17) ?_
      refine ey_iload_n (cd_293 rfl) g2 ?_
      refine ey_iconst (cd_293 rfl) ?_
      refine ey_iadd (cd_293 rfl) ?_
      refine ey_istore (cd_293 rfl) mt_293 rfl ?_
      obtain ⟨x25, e26, e⟩ := jbind e
      refine jk_293_l104 hb h6 e26 ?_ (jup lv 5 (jI (x2 + 1))) g0 g1 g3 rfl
      intro lv g0 g1 g3
      refine ey_iload_n (cd_293 rfl) g3 ?_
      refine ey_istore_n (cd_293 rfl) mt_293 rfl ?_
      exact jk_293_b149 hb h6 e K (jup lv 2 (jI x3)) g0 (jup_pi (lv := lv) (j := 1) (v := jI x3) (z := x1) g1) rfl g3
    by_cases q28 : (jw x3) = 0
    · refine ey_yne (cd_293 rfl) rfl rfl (fun w => w q28) ?_
      refine ey_iconst (cd_293 rfl) ?_
      refine ey_goto (cd_293 rfl) rfl ?_
      exact ey_rs (s0 := [jI 0, jI (m 76 35), jR (some 102)]) (s1 := [jI (if (jw x3) = 0 then 0 else 1), jI (m 76 35), jR (some 102)]) (by rw [show ((if (jw x3) = 0 then 0 else 1) : Int) = 0 from (if_pos q28)]) (K27 (jup lv 4 (jI y0)) f0 f1 f2 (jup_pi (lv := lv) (j := 3) (v := jI y0) (z := x3) f3))
    · refine ey_zne (cd_293 rfl) rfl rfl q28 ?_
      refine ey_iconst (cd_293 rfl) ?_
      exact ey_rs (s0 := [jI 1, jI (m 76 35), jR (some 102)]) (s1 := [jI (if (jw x3) = 0 then 0 else 1), jI (m 76 35), jR (some 102)]) (by rw [show ((if (jw x3) = 0 then 0 else 1) : Int) = 1 from (if_neg q28)]) (K27 (jup lv 4 (jI y0)) f0 f1 f2 (jup_pi (lv := lv) (j := 3) (v := jI y0) (z := x3) f3))
set_option maxRecDepth 100000 in
theorem jk_293_s14 {L : Nat} {xs : Nat → Int32} {b : jH} (hb : 152 ≤ b.1) (h6 : b.1 ≤ 1000000) {x1 : Int} {x2 : Int} {x3 : Int} {m : jM} {o : ((Int × Int × jM) ⊕ jM)} {r : mm_R} (e : jd_293_s14 x1 x2 x3 m = some o) (K : jsm (fun s => (∀ lv : jL, lv 0 = some (jR (some 76)) → lv 1 = some (jI x1) → lv 2 = some (jI s.1) → lv 3 = some (jI s.2.1) → ey (mm_xt L xs) 0 293 14 lv [] (jhm b s.2.2) r)) (fun x => (∀ lv : jL, ey (mm_xt L xs) 0 293 155 lv [] (jhm b x) r)) o) : ∀ lv : jL, lv 0 = some (jR (some 76)) → lv 1 = some (jI x1) → lv 2 = some (jI x2) → lv 3 = some (jI x3) → ey (mm_xt L xs) 0 293 14 lv [] (jhm b m) r := by
  intro lv f0 f1 f2 f3
  unfold jd_293_s14 at e
  refine ey_iload_n (cd_293 rfl) f3 ?_
  refine ey_iload_n (cd_293 rfl) f1 ?_
  by_cases q5 : (jw x1) ≤ (jw x3)
  · rw [if_pos q5] at e
    refine ey_cge (cd_293 rfl) rfl rfl rfl q5 ?_
    cases e
    exact K lv 
  · rw [if_neg q5] at e
    refine ey_nge (cd_293 rfl) rfl rfl rfl q5 ?_
    refine ey_aload_n (cd_293 rfl) f0 ?_
    refine ey_getf_i (z := (m 76 32)) (cd_293 rfl) mt_293 rfl rfl rfl (jhm_gi hb 32) ?_
    by_cases q6 : (jw (m 76 32)) = 0
    · rw [if_pos q6] at e
      refine ey_yne (cd_293 rfl) rfl rfl (fun w => w q6) ?_
      refine ey_iload_n (cd_293 rfl) f3 ?_
      refine ey_aload_n (cd_293 rfl) f0 ?_
      refine ey_getf_r (cd_293 rfl) mt_293 rfl rfl rfl (jhm_gr (q := 82) hb rfl) ?_
      refine ey_iconst (cd_293 rfl) ?_
      obtain ⟨v7, e8, e⟩ := jbind e
      refine ey_iald (cd_293 rfl) (jhm_ai hb h6 (by decide) rfl e8) ?_
      refine ey_iconst (cd_293 rfl) ?_
      refine ey_iadd (cd_293 rfl) ?_
      obtain ⟨u9, e10, e⟩ := jbind e
      refine ey_irem (cd_293 rfl) (jnz_s e10) ?_
      have K29 : ∀ lv : jL, lv 0 = some (jR (some 76)) → lv 1 = some (jI x1) → lv 2 = some (jI x2) → lv 3 = some (jI x3) → ey (mm_xt L xs) 0 293 51 lv [jI (if (jw (jrem x3 (v7 + 1))) = 0 then 1 else (if (jw x3) = (jw (x1 - 1)) then 1 else 0))] (jhm b m) r := by
        intro lv g0 g1 g2 g3
        exact jk_293_b51 hb h6 e K lv g0 g1 g2 g3
      by_cases q30 : (jw (jrem x3 (v7 + 1))) = 0
      · refine ey_zeq (cd_293 rfl) rfl rfl q30 ?_
        refine ey_iconst (cd_293 rfl) ?_
        refine ey_goto (cd_293 rfl) rfl ?_
        exact ey_rs (s0 := [jI 1]) (s1 := [jI (if (jw (jrem x3 (v7 + 1))) = 0 then 1 else (if (jw x3) = (jw (x1 - 1)) then 1 else 0))]) (by rw [show ((if (jw (jrem x3 (v7 + 1))) = 0 then 1 else (if (jw x3) = (jw (x1 - 1)) then 1 else 0)) : Int) = 1 from (if_pos q30)]) (K29 lv f0 f1 f2 f3)
      · refine ey_yeq (cd_293 rfl) rfl rfl q30 ?_
        refine ey_iload_n (cd_293 rfl) f3 ?_
        refine ey_iload_n (cd_293 rfl) f1 ?_
        refine ey_iconst (cd_293 rfl) ?_
        refine ey_isub (cd_293 rfl) ?_
        by_cases q31 : (jw x3) = (jw (x1 - 1))
        · refine ey_nne (cd_293 rfl) rfl rfl rfl (fun w => w q31) ?_
          refine ey_iconst (cd_293 rfl) ?_
          refine ey_goto (cd_293 rfl) rfl ?_
          exact ey_rs (s0 := [jI 1]) (s1 := [jI (if (jw (jrem x3 (v7 + 1))) = 0 then 1 else (if (jw x3) = (jw (x1 - 1)) then 1 else 0))]) (by rw [show ((if (jw (jrem x3 (v7 + 1))) = 0 then 1 else (if (jw x3) = (jw (x1 - 1)) then 1 else 0)) : Int) = 1 from ((if_neg q30).trans (if_pos q31))]) (K29 lv f0 f1 f2 f3)
        · refine ey_cne (cd_293 rfl) rfl rfl rfl q31 ?_
          refine ey_iconst (cd_293 rfl) ?_
          exact ey_rs (s0 := [jI 0]) (s1 := [jI (if (jw (jrem x3 (v7 + 1))) = 0 then 1 else (if (jw x3) = (jw (x1 - 1)) then 1 else 0))]) (by rw [show ((if (jw (jrem x3 (v7 + 1))) = 0 then 1 else (if (jw x3) = (jw (x1 - 1)) then 1 else 0)) : Int) = 0 from ((if_neg q30).trans (if_neg q31))]) (K29 lv f0 f1 f2 f3)
    · rw [if_neg q6] at e
      refine ey_zne (cd_293 rfl) rfl rfl q6 ?_
      refine ey_iconst (cd_293 rfl) ?_
      refine ey_goto (cd_293 rfl) rfl ?_
      refine ey_istore (cd_293 rfl) mt_293 rfl ?_
      refine ey_iload (cd_293 rfl) rfl ?_
      refine ey_zne (cd_293 rfl) rfl (show jw 1 = 1 from by decide) (by decide) ?_
      refine ey_aload_n (cd_293 rfl) f0 ?_
      refine ey_getf_r (cd_293 rfl) mt_293 rfl rfl rfl (jhm_gr (q := 102) hb rfl) ?_
      refine ey_aload_n (cd_293 rfl) f0 ?_
      refine ey_getf_i (z := (m 76 35)) (cd_293 rfl) mt_293 rfl rfl rfl (jhm_gi hb 35) ?_
      refine ey_iload_n (cd_293 rfl) (jup_pi (lv := lv) (j := 3) (v := jI 1) (z := x3) f3) ?_
      have K40 : ∀ lv : jL, lv 0 = some (jR (some 76)) → lv 1 = some (jI x1) → lv 2 = some (jI x2) → lv 3 = some (jI x3) → ey (mm_xt L xs) 0 293 78 lv [jI (if (jw x3) = 0 then 0 else 1), jI (m 76 35), jR (some 102)] (jhm b m) r := by
        intro lv g0 g1 g2 g3
        obtain ⟨m32, e33, e⟩ := jbind e
        refine ey_iast (cd_293 rfl) (jhm_ta hb (by decide) rfl e33) ?_
        refine ey_aload_n (cd_293 rfl) g0 ?_
        refine ey_getf_r (cd_293 rfl) mt_293 rfl rfl rfl (jhm_gr (q := 103) hb rfl) ?_
        refine ey_aload_n (cd_293 rfl) g0 ?_
        refine ey_getf_i (z := (m32 76 35)) (cd_293 rfl) mt_293 rfl rfl rfl (jhm_gi hb 35) ?_
        refine ey_iload_n (cd_293 rfl) g3 ?_
        obtain ⟨m34, e35, e⟩ := jbind e
        refine ey_iast (cd_293 rfl) (jhm_ta hb (by decide) rfl e35) ?_
        refine ey_aload_n (cd_293 rfl) g0 ?_
        refine ey_dup (cd_293 rfl) rfl ?_
        refine ey_getf_i (z := (m34 76 35)) (cd_293 rfl) mt_293 rfl rfl rfl (jhm_gi hb 35) ?_
        refine ey_iconst (cd_293 rfl) ?_
        refine ey_iadd (cd_293 rfl) ?_
        obtain ⟨m36, e37, e⟩ := jbind e
        refine ey_putf_i (cd_293 rfl) mt_293 rfl rfl rfl (jhm_pi' (k := 35) hb e37) ?_
        refine ey_iload_n (cd_293 rfl) g2 ?_
        refine ey_iconst (cd_293 rfl) ?_
        refine ey_iadd (cd_293 rfl) ?_
        refine ey_istore (cd_293 rfl) mt_293 rfl ?_
        obtain ⟨x38, e39, e⟩ := jbind e
        refine jk_293_l104 hb h6 e39 ?_ (jup lv 5 (jI (x2 + 1))) g0 g1 g3 rfl
        intro lv g0 g1 g3
        refine ey_iload_n (cd_293 rfl) g3 ?_
        refine ey_istore_n (cd_293 rfl) mt_293 rfl ?_
        exact jk_293_b149 hb h6 e K (jup lv 2 (jI x3)) g0 (jup_pi (lv := lv) (j := 1) (v := jI x3) (z := x1) g1) rfl g3
      by_cases q41 : (jw x3) = 0
      · refine ey_yne (cd_293 rfl) rfl rfl (fun w => w q41) ?_
        refine ey_iconst (cd_293 rfl) ?_
        refine ey_goto (cd_293 rfl) rfl ?_
        exact ey_rs (s0 := [jI 0, jI (m 76 35), jR (some 102)]) (s1 := [jI (if (jw x3) = 0 then 0 else 1), jI (m 76 35), jR (some 102)]) (by rw [show ((if (jw x3) = 0 then 0 else 1) : Int) = 0 from (if_pos q41)]) (K40 (jup lv 4 (jI 1)) f0 f1 f2 (jup_pi (lv := lv) (j := 3) (v := jI 1) (z := x3) f3))
      · refine ey_zne (cd_293 rfl) rfl rfl q41 ?_
        refine ey_iconst (cd_293 rfl) ?_
        exact ey_rs (s0 := [jI 1, jI (m 76 35), jR (some 102)]) (s1 := [jI (if (jw x3) = 0 then 0 else 1), jI (m 76 35), jR (some 102)]) (by rw [show ((if (jw x3) = 0 then 0 else 1) : Int) = 1 from (if_neg q41)]) (K40 (jup lv 4 (jI 1)) f0 f1 f2 (jup_pi (lv := lv) (j := 3) (v := jI 1) (z := x3) f3))
theorem jk_293_l14 {L : Nat} {xs : Nat → Int32} {b : jH} (hb : 152 ≤ b.1) (h6 : b.1 ≤ 1000000) {x1 : Int} {x2 : Int} {x3 : Int} {m : jM} {x : jM} {r : mm_R} (e : jd_293_l14 x1 x2 x3 m = some x) (K : (∀ lv : jL, ey (mm_xt L xs) 0 293 155 lv [] (jhm b x) r)) : ∀ lv : jL, lv 0 = some (jR (some 76)) → lv 1 = some (jI x1) → lv 2 = some (jI x2) → lv 3 = some (jI x3) → ey (mm_xt L xs) 0 293 14 lv [] (jhm b m) r := by
  unfold jd_293_l14 at e
  exact jlp_ok2 (P := fun s => ∀ lv : jL, lv 0 = some (jR (some 76)) → lv 1 = some (jI x1) → lv 2 = some (jI s.1) → lv 3 = some (jI s.2.1) → ey (mm_xt L xs) 0 293 14 lv [] (jhm b s.2.2) r) (Q := fun x => (∀ lv : jL, ey (mm_xt L xs) 0 293 155 lv [] (jhm b x) r)) (fun s q hq hk => jk_293_s14 hb h6 hq hk) jfu _ x e K
set_option maxRecDepth 100000 in
theorem ok_293 {L : Nat} {xs : Nat → Int32} {b : jH} (hb : 152 ≤ b.1) (h6 : b.1 ≤ 1000000) {p0 : Int} {m : jM} {o : jM} (e : jd_293 p0 m = some o) : mm_Runs (mm_xt L xs) 1 293 ([jR (some 76), jI p0].map jcv) (jaH (jhm b m)) (.inl (none, jaH (jhm b o))) := by
  refine ey_run0 _ mt_293 (jsl_s rfl) ?_
  unfold jd_293 at e
  refine ey_aload_n (cd_293 rfl) rfl ?_
  refine ey_iconst (cd_293 rfl) ?_
  obtain ⟨m1, e2, e⟩ := jbind e
  refine ey_putf_i (cd_293 rfl) mt_293 rfl rfl rfl (jhm_pi' (k := 35) hb e2) ?_
  refine ey_aload_n (cd_293 rfl) rfl ?_
  refine ey_iconst (cd_293 rfl) ?_
  obtain ⟨m3, e4, e⟩ := jbind e
  refine ey_putf_i (cd_293 rfl) mt_293 rfl rfl rfl (jhm_pi' (k := 36) hb e4) ?_
  refine ey_iconst (cd_293 rfl) ?_
  refine ey_istore_n (cd_293 rfl) mt_293 rfl ?_
  refine ey_iconst (cd_293 rfl) ?_
  refine ey_istore_n (cd_293 rfl) mt_293 rfl ?_
  obtain ⟨x42, e43, e⟩ := jbind e
  refine jk_293_l14 hb h6 e43 ?_ (jup (jup (jlf (jla 0 [jR (some 76), jI p0])) 2 (jI 0)) 3 (jI 0)) rfl (jup_o rfl (jup_pi (lv := (jlf (jla 0 [jR (some 76), jI p0]))) (j := 1) (v := jI 0) (z := p0) rfl)) (jup_pi (lv := (jup (jlf (jla 0 [jR (some 76), jI p0])) 2 (jI 0))) (j := 2) (v := jI 0) (z := 0) rfl) rfl
  intro lv 
  cases e
  exact ey_retv (cd_293 rfl) mt_293 rfl
theorem cd_294 {pc : Nat} {i : Instr × Nat} (h : mm_lk mm_c294 pc = some i) : mm_cd 294 pc = some i := h
theorem mt_294 : mm_MT 294 = (12, 12, some .boolean, 5, 0, []) := rfl
set_option maxRecDepth 100000 in
theorem jk_294_s13 {L : Nat} {xs : Nat → Int32} {b : jH} (hb : 152 ≤ b.1) (h6 : b.1 ≤ 1000000) {x1 : Int} {x3 : Int} {x4 : Int} {x5 : Int} {x6 : Int} {m : jM} {o : ((Int × jM) ⊕ jM)} {r : mm_R} (e : jd_294_s13 x1 x3 x4 x5 x6 m = some o) (K : jsm (fun s => (∀ lv : jL, lv 0 = some (jR (some 76)) → lv 1 = some (jI x1) → lv 3 = some (jI x3) → lv 4 = some (jI x4) → lv 5 = some (jI x5) → lv 6 = some (jI s.1) → ey (mm_xt L xs) 9 294 13 lv [] (jhm b s.2) r)) (fun x => (∀ lv : jL, lv 0 = some (jR (some 76)) → lv 1 = some (jI x1) → lv 3 = some (jI x3) → lv 4 = some (jI x4) → lv 5 = some (jI x5) → ey (mm_xt L xs) 9 294 39 lv [] (jhm b x) r)) o) : ∀ lv : jL, lv 0 = some (jR (some 76)) → lv 1 = some (jI x1) → lv 3 = some (jI x3) → lv 4 = some (jI x4) → lv 5 = some (jI x5) → lv 6 = some (jI x6) → ey (mm_xt L xs) 9 294 13 lv [] (jhm b m) r := by
  intro lv f0 f1 f3 f4 f5 f6
  unfold jd_294_s13 at e
  refine ey_iload (cd_294 rfl) f6 ?_
  refine ey_aload_n (cd_294 rfl) f0 ?_
  refine ey_getf_i (z := (m 76 35)) (cd_294 rfl) mt_294 rfl rfl rfl (jhm_gi hb 35) ?_
  by_cases q5 : (jw (m 76 35)) ≤ (jw x6)
  · rw [if_pos q5] at e
    refine ey_cge (cd_294 rfl) rfl rfl rfl q5 ?_
    cases e
    exact K lv f0 f1 f3 f4 f5
  · rw [if_neg q5] at e
    refine ey_nge (cd_294 rfl) rfl rfl rfl q5 ?_
    refine ey_aload_n (cd_294 rfl) f0 ?_
    refine ey_getf_r (cd_294 rfl) mt_294 rfl rfl rfl (jhm_gr (q := 103) hb rfl) ?_
    refine ey_iload (cd_294 rfl) f6 ?_
    refine ey_dup2 (cd_294 rfl) rfl rfl ?_
    obtain ⟨v6, e7, e⟩ := jbind e
    refine ey_iald (cd_294 rfl) (jhm_ai hb h6 (by decide) rfl e7) ?_
    refine ey_iload_n (cd_294 rfl) f1 ?_
    refine ey_iadd (cd_294 rfl) ?_
    obtain ⟨m8, e9, e⟩ := jbind e
    refine ey_iast (cd_294 rfl) (jhm_ta hb (by decide) rfl e9) ?_
    refine ey_iinc (cd_294 rfl) mt_294 rfl f6 ?_
    refine ey_goto (cd_294 rfl) rfl ?_
    cases e
    exact K (jup lv 6 (jI (x6 + 1))) f0 f1 f3 f4 (jup_pi (lv := lv) (j := 5) (v := jI (x6 + 1)) (z := x5) f5) rfl
theorem jk_294_l13 {L : Nat} {xs : Nat → Int32} {b : jH} (hb : 152 ≤ b.1) (h6 : b.1 ≤ 1000000) {x1 : Int} {x3 : Int} {x4 : Int} {x5 : Int} {x6 : Int} {m : jM} {x : jM} {r : mm_R} (e : jd_294_l13 x1 x3 x4 x5 x6 m = some x) (K : (∀ lv : jL, lv 0 = some (jR (some 76)) → lv 1 = some (jI x1) → lv 3 = some (jI x3) → lv 4 = some (jI x4) → lv 5 = some (jI x5) → ey (mm_xt L xs) 9 294 39 lv [] (jhm b x) r)) : ∀ lv : jL, lv 0 = some (jR (some 76)) → lv 1 = some (jI x1) → lv 3 = some (jI x3) → lv 4 = some (jI x4) → lv 5 = some (jI x5) → lv 6 = some (jI x6) → ey (mm_xt L xs) 9 294 13 lv [] (jhm b m) r := by
  unfold jd_294_l13 at e
  exact jlp_ok2 (P := fun s => ∀ lv : jL, lv 0 = some (jR (some 76)) → lv 1 = some (jI x1) → lv 3 = some (jI x3) → lv 4 = some (jI x4) → lv 5 = some (jI x5) → lv 6 = some (jI s.1) → ey (mm_xt L xs) 9 294 13 lv [] (jhm b s.2) r) (Q := fun x => (∀ lv : jL, lv 0 = some (jR (some 76)) → lv 1 = some (jI x1) → lv 3 = some (jI x3) → lv 4 = some (jI x4) → lv 5 = some (jI x5) → ey (mm_xt L xs) 9 294 39 lv [] (jhm b x) r)) (fun s q hq hk => jk_294_s13 hb h6 hq hk) jfu _ x e K
set_option maxRecDepth 100000 in
theorem jk_294_b352 {L : Nat} {xs : Nat → Int32} {b : jH} (hb : 152 ≤ b.1) (h6 : b.1 ≤ 1000000) {x1 : Int} {x3 : Int} {x4 : Int} {x5 : Int} {x6 : Int} {m : jM} {o : ((Int × jM) ⊕ (jM ⊕ (jM ⊕ jM)))} {r : mm_R} (e : jd_294_b352 x1 x3 x4 x5 x6 m = some o) (K : jsm (fun s => (∀ lv : jL, lv 0 = some (jR (some 76)) → lv 1 = some (jI x1) → lv 3 = some (jI x3) → lv 4 = some (jI x4) → lv 5 = some (jI x5) → lv 6 = some (jI s.1) → ey (mm_xt L xs) 9 294 42 lv [] (jhm b s.2) r)) (fun x => (jsm (fun y => (∀ lv : jL, ey (mm_xt L xs) 9 294 163 lv [] (jhm b y) r)) (fun z => (jsm (fun y => (∀ lv : jL, ey (mm_xt L xs) 9 294 205 lv [] (jhm b y) r)) (fun z => (∀ lv : jL, ey (mm_xt L xs) 9 294 358 lv [] (jhm b z) r)) z)) x)) o) : ∀ lv : jL, lv 0 = some (jR (some 76)) → lv 1 = some (jI x1) → lv 3 = some (jI x3) → lv 4 = some (jI x4) → lv 5 = some (jI x5) → lv 6 = some (jI x6) → ey (mm_xt L xs) 9 294 352 lv [] (jhm b m) r := by
  intro lv f0 f1 f3 f4 f5 f6
  unfold jd_294_b352 at e
  refine ey_iinc (cd_294 rfl) mt_294 rfl f6 ?_
  refine ey_goto (cd_294 rfl) rfl ?_
  cases e
  exact K (jup lv 6 (jI (x6 + 1))) f0 f1 f3 f4 (jup_pi (lv := lv) (j := 5) (v := jI (x6 + 1)) (z := x5) f5) rfl
set_option maxRecDepth 100000 in
theorem jk_294_b331 {L : Nat} {xs : Nat → Int32} {b : jH} (hb : 152 ≤ b.1) (h6 : b.1 ≤ 1000000) {x1 : Int} {x3 : Int} {x4 : Int} {x5 : Int} {x6 : Int} {x8 : Int} {x9 : Int} {x11 : Int} {y0 : Int} {y1 : Int} {m : jM} {o : ((Int × Int) ⊕ Int)} {r : mm_R} (e : jd_294_b331 x1 x3 x4 x5 x6 x8 x9 x11 y0 y1 m = some o) (K : jsm (fun s => (∀ lv : jL, lv 0 = some (jR (some 76)) → lv 1 = some (jI x1) → lv 3 = some (jI x3) → lv 4 = some (jI x4) → lv 5 = some (jI x5) → lv 6 = some (jI x6) → lv 8 = some (jI x8) → lv 9 = some (jI x9) → lv 10 = some (jI s.1) → lv 11 = some (jI s.2) → ey (mm_xt L xs) 9 294 288 lv [] (jhm b m) r)) (fun x => (∀ lv : jL, lv 0 = some (jR (some 76)) → lv 1 = some (jI x1) → lv 3 = some (jI x3) → lv 4 = some (jI x4) → lv 5 = some (jI x5) → lv 6 = some (jI x6) → lv 8 = some (jI x8) → lv 9 = some (jI x9) → lv 10 = some (jI x) → ey (mm_xt L xs) 9 294 340 lv [] (jhm b m) r)) o) : ∀ lv : jL, lv 0 = some (jR (some 76)) → lv 1 = some (jI x1) → lv 3 = some (jI x3) → lv 4 = some (jI x4) → lv 5 = some (jI x5) → lv 6 = some (jI x6) → lv 8 = some (jI x8) → lv 9 = some (jI x9) → lv 11 = some (jI x11) → ey (mm_xt L xs) 9 294 331 lv [jI y0, jI y1] (jhm b m) r := by
  intro lv f0 f1 f3 f4 f5 f6 f8 f9 f11
  unfold jd_294_b331 at e
  refine ey_iadd (cd_294 rfl) ?_
  refine ey_istore (cd_294 rfl) mt_294 rfl ?_
  refine ey_iinc (cd_294 rfl) mt_294 rfl f11 ?_
  refine ey_goto (cd_294 rfl) rfl ?_
  cases e
  exact K (jup (jup lv 10 (jI (y1 + y0))) 11 (jI (x11 + 1))) f0 f1 f3 f4 f5 f6 f8 (jup_o rfl (jup_pi (lv := lv) (j := 9) (v := jI (y1 + y0)) (z := x9) f9)) (jup_pi (lv := (jup lv 10 (jI (y1 + y0)))) (j := 10) (v := jI (x11 + 1)) (z := (y1 + y0)) rfl) rfl
set_option maxRecDepth 100000 in
theorem jk_294_s288 {L : Nat} {xs : Nat → Int32} {b : jH} (hb : 152 ≤ b.1) (h6 : b.1 ≤ 1000000) {x1 : Int} {x3 : Int} {x4 : Int} {x5 : Int} {x6 : Int} {x8 : Int} {x9 : Int} {x10 : Int} {x11 : Int} {m : jM} {o : ((Int × Int) ⊕ Int)} {r : mm_R} (e : jd_294_s288 x1 x3 x4 x5 x6 x8 x9 x10 x11 m = some o) (K : jsm (fun s => (∀ lv : jL, lv 0 = some (jR (some 76)) → lv 1 = some (jI x1) → lv 3 = some (jI x3) → lv 4 = some (jI x4) → lv 5 = some (jI x5) → lv 6 = some (jI x6) → lv 8 = some (jI x8) → lv 9 = some (jI x9) → lv 10 = some (jI s.1) → lv 11 = some (jI s.2) → ey (mm_xt L xs) 9 294 288 lv [] (jhm b m) r)) (fun x => (∀ lv : jL, lv 0 = some (jR (some 76)) → lv 1 = some (jI x1) → lv 3 = some (jI x3) → lv 4 = some (jI x4) → lv 5 = some (jI x5) → lv 6 = some (jI x6) → lv 8 = some (jI x8) → lv 9 = some (jI x9) → lv 10 = some (jI x) → ey (mm_xt L xs) 9 294 340 lv [] (jhm b m) r)) o) : ∀ lv : jL, lv 0 = some (jR (some 76)) → lv 1 = some (jI x1) → lv 3 = some (jI x3) → lv 4 = some (jI x4) → lv 5 = some (jI x5) → lv 6 = some (jI x6) → lv 8 = some (jI x8) → lv 9 = some (jI x9) → lv 10 = some (jI x10) → lv 11 = some (jI x11) → ey (mm_xt L xs) 9 294 288 lv [] (jhm b m) r := by
  intro lv f0 f1 f3 f4 f5 f6 f8 f9 f10 f11
  unfold jd_294_s288 at e
  refine ey_iload (cd_294 rfl) f11 ?_
  refine ey_bipush (cd_294 rfl) (by decide) ?_
  by_cases q37 : 8 ≤ (jw x11)
  · rw [if_pos q37] at e
    refine ey_cge (cd_294 rfl) rfl rfl (show jw 8 = 8 from by decide) q37 ?_
    cases e
    exact K lv f0 f1 f3 f4 f5 f6 f8 f9 f10
  · rw [if_neg q37] at e
    refine ey_nge (cd_294 rfl) rfl rfl (show jw 8 = 8 from by decide) q37 ?_
    refine ey_iconst (cd_294 rfl) ?_
    refine ey_iload (cd_294 rfl) f10 ?_
    refine ey_imul (cd_294 rfl) ?_
    refine ey_bipush (cd_294 rfl) (by decide) ?_
    refine ey_iload (cd_294 rfl) f9 ?_
    refine ey_imul (cd_294 rfl) ?_
    refine ey_iload (cd_294 rfl) f11 ?_
    refine ey_iadd (cd_294 rfl) ?_
    refine ey_aload_n (cd_294 rfl) f0 ?_
    refine ey_getf_i (z := (m 76 53)) (cd_294 rfl) mt_294 rfl rfl rfl (jhm_gi hb 53) ?_
    by_cases q38 : (jw (m 76 53)) ≤ (jw ((8 * x9) + x11))
    · rw [if_pos q38] at e
      refine ey_cge (cd_294 rfl) rfl rfl rfl q38 ?_
      refine ey_iconst (cd_294 rfl) ?_
      exact jk_294_b331 hb h6 e K lv f0 f1 f3 f4 f5 f6 f8 f9 f11
    · rw [if_neg q38] at e
      refine ey_nge (cd_294 rfl) rfl rfl rfl q38 ?_
      refine ey_aload_n (cd_294 rfl) f0 ?_
      refine ey_getf_r (cd_294 rfl) mt_294 rfl rfl rfl (jhm_gr (q := 113) hb rfl) ?_
      refine ey_bipush (cd_294 rfl) (by decide) ?_
      refine ey_iload (cd_294 rfl) f9 ?_
      refine ey_imul (cd_294 rfl) ?_
      refine ey_iload (cd_294 rfl) f11 ?_
      refine ey_iadd (cd_294 rfl) ?_
      obtain ⟨v39, e40, e⟩ := jbind e
      refine ey_bald (cd_294 rfl) (jhm_ab hb (by decide) rfl e40) ?_
      refine ey_goto (cd_294 rfl) rfl ?_
      exact jk_294_b331 hb h6 e K lv f0 f1 f3 f4 f5 f6 f8 f9 f11
theorem jk_294_l288 {L : Nat} {xs : Nat → Int32} {b : jH} (hb : 152 ≤ b.1) (h6 : b.1 ≤ 1000000) {x1 : Int} {x3 : Int} {x4 : Int} {x5 : Int} {x6 : Int} {x8 : Int} {x9 : Int} {x10 : Int} {x11 : Int} {m : jM} {x : Int} {r : mm_R} (e : jd_294_l288 x1 x3 x4 x5 x6 x8 x9 x10 x11 m = some x) (K : (∀ lv : jL, lv 0 = some (jR (some 76)) → lv 1 = some (jI x1) → lv 3 = some (jI x3) → lv 4 = some (jI x4) → lv 5 = some (jI x5) → lv 6 = some (jI x6) → lv 8 = some (jI x8) → lv 9 = some (jI x9) → lv 10 = some (jI x) → ey (mm_xt L xs) 9 294 340 lv [] (jhm b m) r)) : ∀ lv : jL, lv 0 = some (jR (some 76)) → lv 1 = some (jI x1) → lv 3 = some (jI x3) → lv 4 = some (jI x4) → lv 5 = some (jI x5) → lv 6 = some (jI x6) → lv 8 = some (jI x8) → lv 9 = some (jI x9) → lv 10 = some (jI x10) → lv 11 = some (jI x11) → ey (mm_xt L xs) 9 294 288 lv [] (jhm b m) r := by
  unfold jd_294_l288 at e
  exact jlp_ok2 (P := fun s => ∀ lv : jL, lv 0 = some (jR (some 76)) → lv 1 = some (jI x1) → lv 3 = some (jI x3) → lv 4 = some (jI x4) → lv 5 = some (jI x5) → lv 6 = some (jI x6) → lv 8 = some (jI x8) → lv 9 = some (jI x9) → lv 10 = some (jI s.1) → lv 11 = some (jI s.2) → ey (mm_xt L xs) 9 294 288 lv [] (jhm b m) r) (Q := fun x => (∀ lv : jL, lv 0 = some (jR (some 76)) → lv 1 = some (jI x1) → lv 3 = some (jI x3) → lv 4 = some (jI x4) → lv 5 = some (jI x5) → lv 6 = some (jI x6) → lv 8 = some (jI x8) → lv 9 = some (jI x9) → lv 10 = some (jI x) → ey (mm_xt L xs) 9 294 340 lv [] (jhm b m) r)) (fun s q hq hk => jk_294_s288 hb h6 hq hk) jfu _ x e K
set_option maxRecDepth 100000 in
theorem jk_294_s275 {L : Nat} {xs : Nat → Int32} {b : jH} (hb : 152 ≤ b.1) (h6 : b.1 ≤ 1000000) {x1 : Int} {x3 : Int} {x4 : Int} {x5 : Int} {x6 : Int} {x8 : Int} {x9 : Int} {m : jM} {o : ((Int × jM) ⊕ jM)} {r : mm_R} (e : jd_294_s275 x1 x3 x4 x5 x6 x8 x9 m = some o) (K : jsm (fun s => (∀ lv : jL, lv 0 = some (jR (some 76)) → lv 1 = some (jI x1) → lv 3 = some (jI x3) → lv 4 = some (jI x4) → lv 5 = some (jI x5) → lv 6 = some (jI x6) → lv 8 = some (jI x8) → lv 9 = some (jI s.1) → ey (mm_xt L xs) 9 294 275 lv [] (jhm b s.2) r)) (fun x => (∀ lv : jL, lv 0 = some (jR (some 76)) → lv 1 = some (jI x1) → lv 3 = some (jI x3) → lv 4 = some (jI x4) → lv 5 = some (jI x5) → lv 6 = some (jI x6) → ey (mm_xt L xs) 9 294 352 lv [] (jhm b x) r)) o) : ∀ lv : jL, lv 0 = some (jR (some 76)) → lv 1 = some (jI x1) → lv 3 = some (jI x3) → lv 4 = some (jI x4) → lv 5 = some (jI x5) → lv 6 = some (jI x6) → lv 8 = some (jI x8) → lv 9 = some (jI x9) → ey (mm_xt L xs) 9 294 275 lv [] (jhm b m) r := by
  intro lv f0 f1 f3 f4 f5 f6 f8 f9
  unfold jd_294_s275 at e
  refine ey_iload (cd_294 rfl) f9 ?_
  refine ey_iload (cd_294 rfl) f8 ?_
  by_cases q36 : (jw x8) ≤ (jw x9)
  · rw [if_pos q36] at e
    refine ey_cge (cd_294 rfl) rfl rfl rfl q36 ?_
    cases e
    exact K lv f0 f1 f3 f4 f5 f6
  · rw [if_neg q36] at e
    refine ey_nge (cd_294 rfl) rfl rfl rfl q36 ?_
    refine ey_iconst (cd_294 rfl) ?_
    refine ey_istore (cd_294 rfl) mt_294 rfl ?_
    refine ey_iconst (cd_294 rfl) ?_
    refine ey_istore (cd_294 rfl) mt_294 rfl ?_
    obtain ⟨x41, e42, e⟩ := jbind e
    refine jk_294_l288 hb h6 e42 ?_ (jup (jup lv 10 (jI 0)) 11 (jI 0)) f0 f1 f3 f4 f5 f6 f8 (jup_o rfl (jup_pi (lv := lv) (j := 9) (v := jI 0) (z := x9) f9)) (jup_pi (lv := (jup lv 10 (jI 0))) (j := 10) (v := jI 0) (z := 0) rfl) rfl
    intro lv g0 g1 g3 g4 g5 g6 g8 g9 g10
    refine ey_aload_n (cd_294 rfl) g0 ?_
    refine ey_iload (cd_294 rfl) g10 ?_
    obtain ⟨m43, e44, e⟩ := jbind e
    refine ey_cv (s0 := [jI x41, jR (some 76)]) (s1 := []) (st' := []) (cd_294 rfl) mt_294 mt_292 rfl rfl rfl (jhm_is hb) rfl (jsml_s rfl) rfl (mm_Runs.up (d := 1) (by decide) (ok_292 hb h6 e44)) ?_
    refine ey_iinc (cd_294 rfl) mt_294 rfl g9 ?_
    refine ey_goto (cd_294 rfl) rfl ?_
    cases e
    exact K (jup lv 9 (jI (x9 + 1))) g0 g1 g3 g4 g5 g6 (jup_pi (lv := lv) (j := 8) (v := jI (x9 + 1)) (z := x8) g8) rfl
theorem jk_294_l275 {L : Nat} {xs : Nat → Int32} {b : jH} (hb : 152 ≤ b.1) (h6 : b.1 ≤ 1000000) {x1 : Int} {x3 : Int} {x4 : Int} {x5 : Int} {x6 : Int} {x8 : Int} {x9 : Int} {m : jM} {x : jM} {r : mm_R} (e : jd_294_l275 x1 x3 x4 x5 x6 x8 x9 m = some x) (K : (∀ lv : jL, lv 0 = some (jR (some 76)) → lv 1 = some (jI x1) → lv 3 = some (jI x3) → lv 4 = some (jI x4) → lv 5 = some (jI x5) → lv 6 = some (jI x6) → ey (mm_xt L xs) 9 294 352 lv [] (jhm b x) r)) : ∀ lv : jL, lv 0 = some (jR (some 76)) → lv 1 = some (jI x1) → lv 3 = some (jI x3) → lv 4 = some (jI x4) → lv 5 = some (jI x5) → lv 6 = some (jI x6) → lv 8 = some (jI x8) → lv 9 = some (jI x9) → ey (mm_xt L xs) 9 294 275 lv [] (jhm b m) r := by
  unfold jd_294_l275 at e
  exact jlp_ok2 (P := fun s => ∀ lv : jL, lv 0 = some (jR (some 76)) → lv 1 = some (jI x1) → lv 3 = some (jI x3) → lv 4 = some (jI x4) → lv 5 = some (jI x5) → lv 6 = some (jI x6) → lv 8 = some (jI x8) → lv 9 = some (jI s.1) → ey (mm_xt L xs) 9 294 275 lv [] (jhm b s.2) r) (Q := fun x => (∀ lv : jL, lv 0 = some (jR (some 76)) → lv 1 = some (jI x1) → lv 3 = some (jI x3) → lv 4 = some (jI x4) → lv 5 = some (jI x5) → lv 6 = some (jI x6) → ey (mm_xt L xs) 9 294 352 lv [] (jhm b x) r)) (fun s q hq hk => jk_294_s275 hb h6 hq hk) jfu _ x e K
set_option maxRecDepth 100000 in
theorem jk_294_b207 {L : Nat} {xs : Nat → Int32} {b : jH} (hb : 152 ≤ b.1) (h6 : b.1 ≤ 1000000) {x1 : Int} {x3 : Int} {x4 : Int} {x5 : Int} {x6 : Int} {x8 : Int} {m : jM} {o : ((Int × jM) ⊕ (jM ⊕ (jM ⊕ jM)))} {r : mm_R} (e : jd_294_b207 x1 x3 x4 x5 x6 x8 m = some o) (K : jsm (fun s => (∀ lv : jL, lv 0 = some (jR (some 76)) → lv 1 = some (jI x1) → lv 3 = some (jI x3) → lv 4 = some (jI x4) → lv 5 = some (jI x5) → lv 6 = some (jI s.1) → ey (mm_xt L xs) 9 294 42 lv [] (jhm b s.2) r)) (fun x => (jsm (fun y => (∀ lv : jL, ey (mm_xt L xs) 9 294 163 lv [] (jhm b y) r)) (fun z => (jsm (fun y => (∀ lv : jL, ey (mm_xt L xs) 9 294 205 lv [] (jhm b y) r)) (fun z => (∀ lv : jL, ey (mm_xt L xs) 9 294 358 lv [] (jhm b z) r)) z)) x)) o) : ∀ lv : jL, lv 0 = some (jR (some 76)) → lv 1 = some (jI x1) → lv 3 = some (jI x3) → lv 4 = some (jI x4) → lv 5 = some (jI x5) → lv 6 = some (jI x6) → lv 8 = some (jI x8) → ey (mm_xt L xs) 9 294 207 lv [] (jhm b m) r := by
  intro lv f0 f1 f3 f4 f5 f6 f8
  unfold jd_294_b207 at e
  refine ey_iload_n (cd_294 rfl) f3 ?_
  refine ey_iconst (cd_294 rfl) ?_
  by_cases q19 : (jw x3) = (-1)
  · rw [if_pos q19] at e
    refine ey_nne (cd_294 rfl) rfl rfl (show jw (-1) = (-1) from by decide) (fun w => w q19) ?_
    refine ey_goto (cd_294 rfl) rfl ?_
    exact jk_294_b352 hb h6 e K lv f0 f1 f3 f4 f5 f6
  · rw [if_neg q19] at e
    refine ey_cne (cd_294 rfl) rfl rfl (show jw (-1) = (-1) from by decide) q19 ?_
    refine ey_aload_n (cd_294 rfl) f0 ?_
    refine ey_aload_n (cd_294 rfl) f0 ?_
    refine ey_getf_r (cd_294 rfl) mt_294 rfl rfl rfl (jhm_gr (q := 102) hb rfl) ?_
    refine ey_iload (cd_294 rfl) f6 ?_
    obtain ⟨v20, e21, e⟩ := jbind e
    refine ey_iald (cd_294 rfl) (jhm_ai hb h6 (by decide) rfl e21) ?_
    obtain ⟨m22, e23, e⟩ := jbind e
    refine ey_cv (s0 := [jI v20, jR (some 76)]) (s1 := []) (st' := []) (cd_294 rfl) mt_294 mt_292 rfl rfl rfl (jhm_is hb) rfl (jsml_s rfl) rfl (mm_Runs.up (d := 1) (by decide) (ok_292 hb h6 e23)) ?_
    refine ey_aload_n (cd_294 rfl) f0 ?_
    refine ey_aload_n (cd_294 rfl) f0 ?_
    refine ey_getf_r (cd_294 rfl) mt_294 rfl rfl rfl (jhm_gr (q := 103) hb rfl) ?_
    refine ey_iload (cd_294 rfl) f6 ?_
    obtain ⟨v24, e25, e⟩ := jbind e
    refine ey_iald (cd_294 rfl) (jhm_ai hb h6 (by decide) rfl e25) ?_
    refine ey_iload_n (cd_294 rfl) f1 ?_
    refine ey_isub (cd_294 rfl) ?_
    refine ey_iload_n (cd_294 rfl) f3 ?_
    refine ey_iadd (cd_294 rfl) ?_
    obtain ⟨m26, e27, e⟩ := jbind e
    refine ey_cv (s0 := [jI ((v24 - x1) + x3), jR (some 76)]) (s1 := []) (st' := []) (cd_294 rfl) mt_294 mt_292 rfl rfl rfl (jhm_is hb) rfl (jsml_s rfl) rfl (mm_Runs.up (d := 1) (by decide) (ok_292 hb h6 e27)) ?_
    refine ey_aload_n (cd_294 rfl) f0 ?_
    refine ey_aload_n (cd_294 rfl) f0 ?_
    refine ey_getf_r (cd_294 rfl) mt_294 rfl rfl rfl (jhm_gr (q := 104) hb rfl) ?_
    refine ey_iload (cd_294 rfl) f6 ?_
    obtain ⟨v28, e29, e⟩ := jbind e
    refine ey_iald (cd_294 rfl) (jhm_ai hb h6 (by decide) rfl e29) ?_
    obtain ⟨m30, e31, e⟩ := jbind e
    refine ey_cv (s0 := [jI v28, jR (some 76)]) (s1 := []) (st' := []) (cd_294 rfl) mt_294 mt_292 rfl rfl rfl (jhm_is hb) rfl (jsml_s rfl) rfl (mm_Runs.up (d := 1) (by decide) (ok_292 hb h6 e31)) ?_
    refine ey_aload_n (cd_294 rfl) f0 ?_
    refine ey_iload (cd_294 rfl) f8 ?_
    refine ey_sipush (cd_294 rfl) (by decide) ?_
    refine ey_idiv (cd_294 rfl) (by decide) ?_
    obtain ⟨m32, e33, e⟩ := jbind e
    refine ey_cv (s0 := [jI (jdiv x8 256), jR (some 76)]) (s1 := []) (st' := []) (cd_294 rfl) mt_294 mt_292 rfl rfl rfl (jhm_is hb) rfl (jsml_s rfl) rfl (mm_Runs.up (d := 1) (by decide) (ok_292 hb h6 e33)) ?_
    refine ey_aload_n (cd_294 rfl) f0 ?_
    refine ey_iload (cd_294 rfl) f8 ?_
    refine ey_sipush (cd_294 rfl) (by decide) ?_
    refine ey_irem (cd_294 rfl) (by decide) ?_
    obtain ⟨m34, e35, e⟩ := jbind e
    refine ey_cv (s0 := [jI (jrem x8 256), jR (some 76)]) (s1 := []) (st' := []) (cd_294 rfl) mt_294 mt_292 rfl rfl rfl (jhm_is hb) rfl (jsml_s rfl) rfl (mm_Runs.up (d := 1) (by decide) (ok_292 hb h6 e35)) ?_
    refine ey_iconst (cd_294 rfl) ?_
    refine ey_istore (cd_294 rfl) mt_294 rfl ?_
    obtain ⟨x45, e46, e⟩ := jbind e
    refine jk_294_l275 hb h6 e46 ?_ (jup lv 9 (jI 0)) f0 f1 f3 f4 f5 f6 (jup_pi (lv := lv) (j := 8) (v := jI 0) (z := x8) f8) rfl
    intro lv g0 g1 g3 g4 g5 g6
    exact jk_294_b352 hb h6 e K lv g0 g1 g3 g4 g5 g6
set_option maxRecDepth 100000 in
theorem jk_294_b179 {L : Nat} {xs : Nat → Int32} {b : jH} (hb : 152 ≤ b.1) (h6 : b.1 ≤ 1000000) {x1 : Int} {x3 : Int} {x4 : Int} {x5 : Int} {x6 : Int} {x8 : Int} {m : jM} {o : ((Int × jM) ⊕ (jM ⊕ (jM ⊕ jM)))} {r : mm_R} (e : jd_294_b179 x1 x3 x4 x5 x6 x8 m = some o) (K : jsm (fun s => (∀ lv : jL, lv 0 = some (jR (some 76)) → lv 1 = some (jI x1) → lv 3 = some (jI x3) → lv 4 = some (jI x4) → lv 5 = some (jI x5) → lv 6 = some (jI s.1) → ey (mm_xt L xs) 9 294 42 lv [] (jhm b s.2) r)) (fun x => (jsm (fun y => (∀ lv : jL, ey (mm_xt L xs) 9 294 163 lv [] (jhm b y) r)) (fun z => (jsm (fun y => (∀ lv : jL, ey (mm_xt L xs) 9 294 205 lv [] (jhm b y) r)) (fun z => (∀ lv : jL, ey (mm_xt L xs) 9 294 358 lv [] (jhm b z) r)) z)) x)) o) : ∀ lv : jL, lv 0 = some (jR (some 76)) → lv 1 = some (jI x1) → lv 3 = some (jI x3) → lv 4 = some (jI x4) → lv 5 = some (jI x5) → lv 6 = some (jI x6) → lv 8 = some (jI x8) → ey (mm_xt L xs) 9 294 179 lv [] (jhm b m) r := by
  intro lv f0 f1 f3 f4 f5 f6 f8
  unfold jd_294_b179 at e
  refine ey_aload_n (cd_294 rfl) f0 ?_
  refine ey_dup (cd_294 rfl) rfl ?_
  refine ey_getf_i (z := (m 76 83)) (cd_294 rfl) mt_294 rfl rfl rfl (jhm_gi hb 83) ?_
  refine ey_iconst (cd_294 rfl) ?_
  refine ey_iload (cd_294 rfl) f8 ?_
  refine ey_iadd (cd_294 rfl) ?_
  refine ey_iadd (cd_294 rfl) ?_
  obtain ⟨m16, e17, e⟩ := jbind e
  refine ey_putf_i (cd_294 rfl) mt_294 rfl rfl rfl (jhm_pi' (k := 83) hb e17) ?_
  refine ey_iload (cd_294 rfl) f8 ?_
  refine ey_sipush (cd_294 rfl) (by decide) ?_
  by_cases q18 : (jw x8) ≤ 2000
  · rw [if_pos q18] at e
    refine ey_cle (cd_294 rfl) rfl rfl (show jw 2000 = 2000 from by decide) q18 ?_
    exact jk_294_b207 hb h6 e K lv f0 f1 f3 f4 f5 f6 f8
  · rw [if_neg q18] at e
    refine ey_nle (cd_294 rfl) rfl rfl (show jw 2000 = 2000 from by decide) q18 ?_
    refine ey_iload_n (cd_294 rfl) f3 ?_
    refine ey_iconst (cd_294 rfl) ?_
    by_cases q47 : (jw x3) = (-1)
    · rw [if_pos q47] at e
      refine ey_ceq (cd_294 rfl) rfl rfl (show jw (-1) = (-1) from by decide) q47 ?_
      exact jk_294_b207 hb h6 e K lv f0 f1 f3 f4 f5 f6 f8
    · rw [if_neg q47] at e
      refine ey_neq (cd_294 rfl) rfl rfl (show jw (-1) = (-1) from by decide) q47 ?_
      cases e
      exact K lv 
set_option maxRecDepth 100000 in
theorem jk_294_s116 {L : Nat} {xs : Nat → Int32} {b : jH} (hb : 152 ≤ b.1) (h6 : b.1 ≤ 1000000) {x1 : Int} {x3 : Int} {x4 : Int} {x5 : Int} {x6 : Int} {x7 : Int} {x8 : Int} {m : jM} {o : ((Int × Int × jM) ⊕ (Int × jM))} {r : mm_R} (e : jd_294_s116 x1 x3 x4 x5 x6 x7 x8 m = some o) (K : jsm (fun s => (∀ lv : jL, lv 0 = some (jR (some 76)) → lv 1 = some (jI x1) → lv 3 = some (jI x3) → lv 4 = some (jI x4) → lv 5 = some (jI x5) → lv 6 = some (jI x6) → lv 7 = some (jI s.1) → lv 8 = some (jI s.2.1) → ey (mm_xt L xs) 9 294 116 lv [] (jhm b s.2.2) r)) (fun x => (∀ lv : jL, lv 0 = some (jR (some 76)) → lv 1 = some (jI x1) → lv 3 = some (jI x3) → lv 4 = some (jI x4) → lv 5 = some (jI x5) → lv 6 = some (jI x6) → lv 8 = some (jI x.1) → ey (mm_xt L xs) 9 294 151 lv [] (jhm b x.2) r)) o) : ∀ lv : jL, lv 0 = some (jR (some 76)) → lv 1 = some (jI x1) → lv 3 = some (jI x3) → lv 4 = some (jI x4) → lv 5 = some (jI x5) → lv 6 = some (jI x6) → lv 7 = some (jI x7) → lv 8 = some (jI x8) → ey (mm_xt L xs) 9 294 116 lv [] (jhm b m) r := by
  intro lv f0 f1 f3 f4 f5 f6 f7 f8
  unfold jd_294_s116 at e
  refine ey_bipush (cd_294 rfl) (by decide) ?_
  refine ey_iload (cd_294 rfl) f8 ?_
  refine ey_imul (cd_294 rfl) ?_
  refine ey_aload_n (cd_294 rfl) f0 ?_
  refine ey_getf_i (z := (m 76 82)) (cd_294 rfl) mt_294 rfl rfl rfl (jhm_gi hb 82) ?_
  by_cases q55 : (jw (8 * x8)) ≤ (jw (m 76 82))
  · rw [if_pos q55] at e
    refine ey_cle (cd_294 rfl) rfl rfl rfl q55 ?_
    cases e
    exact K lv f0 f1 f3 f4 f5 f6 f8
  · rw [if_neg q55] at e
    refine ey_nle (cd_294 rfl) rfl rfl rfl q55 ?_
    refine ey_iload (cd_294 rfl) f7 ?_
    refine ey_bipush (cd_294 rfl) (by decide) ?_
    by_cases q56 : 31 ≤ (jw x7)
    · rw [if_pos q56] at e
      refine ey_cge (cd_294 rfl) rfl rfl (show jw 31 = 31 from by decide) q56 ?_
      cases e
      exact K lv f0 f1 f3 f4 f5 f6 f8
    · rw [if_neg q56] at e
      refine ey_nge (cd_294 rfl) rfl rfl (show jw 31 = 31 from by decide) q56 ?_
      refine ey_iinc (cd_294 rfl) mt_294 rfl f7 ?_
      refine ey_aload_n (cd_294 rfl) f0 ?_
      refine ey_iload (cd_294 rfl) (jup_pi (lv := lv) (j := 6) (v := jI (x7 + 1)) (z := x6) f6) ?_
      refine ey_iload (cd_294 rfl) rfl ?_
      obtain ⟨q57, e58, e⟩ := jbind e
      refine ey_cv (s0 := [jI (x7 + 1), jI x6, jR (some 76)]) (s1 := []) (st' := [jI q57.1]) (cd_294 rfl) mt_294 mt_291 rfl rfl rfl (jhm_is hb) rfl (jsml_s rfl) rfl (ok_291 hb h6 e58) ?_
      refine ey_istore (cd_294 rfl) mt_294 rfl ?_
      refine ey_goto (cd_294 rfl) rfl ?_
      cases e
      exact K (jup (jup lv 7 (jI (x7 + 1))) 8 (jI q57.1)) f0 f1 f3 f4 f5 (jup_o rfl (jup_pi (lv := lv) (j := 6) (v := jI (x7 + 1)) (z := x6) f6)) (jup_pi (lv := (jup lv 7 (jI (x7 + 1)))) (j := 7) (v := jI q57.1) (z := (x7 + 1)) rfl) rfl
theorem jk_294_l116 {L : Nat} {xs : Nat → Int32} {b : jH} (hb : 152 ≤ b.1) (h6 : b.1 ≤ 1000000) {x1 : Int} {x3 : Int} {x4 : Int} {x5 : Int} {x6 : Int} {x7 : Int} {x8 : Int} {m : jM} {x : (Int × jM)} {r : mm_R} (e : jd_294_l116 x1 x3 x4 x5 x6 x7 x8 m = some x) (K : (∀ lv : jL, lv 0 = some (jR (some 76)) → lv 1 = some (jI x1) → lv 3 = some (jI x3) → lv 4 = some (jI x4) → lv 5 = some (jI x5) → lv 6 = some (jI x6) → lv 8 = some (jI x.1) → ey (mm_xt L xs) 9 294 151 lv [] (jhm b x.2) r)) : ∀ lv : jL, lv 0 = some (jR (some 76)) → lv 1 = some (jI x1) → lv 3 = some (jI x3) → lv 4 = some (jI x4) → lv 5 = some (jI x5) → lv 6 = some (jI x6) → lv 7 = some (jI x7) → lv 8 = some (jI x8) → ey (mm_xt L xs) 9 294 116 lv [] (jhm b m) r := by
  unfold jd_294_l116 at e
  exact jlp_ok2 (P := fun s => ∀ lv : jL, lv 0 = some (jR (some 76)) → lv 1 = some (jI x1) → lv 3 = some (jI x3) → lv 4 = some (jI x4) → lv 5 = some (jI x5) → lv 6 = some (jI x6) → lv 7 = some (jI s.1) → lv 8 = some (jI s.2.1) → ey (mm_xt L xs) 9 294 116 lv [] (jhm b s.2.2) r) (Q := fun x => (∀ lv : jL, lv 0 = some (jR (some 76)) → lv 1 = some (jI x1) → lv 3 = some (jI x3) → lv 4 = some (jI x4) → lv 5 = some (jI x5) → lv 6 = some (jI x6) → lv 8 = some (jI x.1) → ey (mm_xt L xs) 9 294 151 lv [] (jhm b x.2) r)) (fun s q hq hk => jk_294_s116 hb h6 hq hk) jfu _ x e K
set_option maxRecDepth 100000 in
theorem jk_294_b113 {L : Nat} {xs : Nat → Int32} {b : jH} (hb : 152 ≤ b.1) (h6 : b.1 ≤ 1000000) {x1 : Int} {x3 : Int} {x4 : Int} {x5 : Int} {x6 : Int} {x7 : Int} {x8 : Int} {y0 : Int} {m : jM} {o : ((Int × jM) ⊕ (jM ⊕ (jM ⊕ jM)))} {r : mm_R} (e : jd_294_b113 x1 x3 x4 x5 x6 x7 x8 y0 m = some o) (K : jsm (fun s => (∀ lv : jL, lv 0 = some (jR (some 76)) → lv 1 = some (jI x1) → lv 3 = some (jI x3) → lv 4 = some (jI x4) → lv 5 = some (jI x5) → lv 6 = some (jI s.1) → ey (mm_xt L xs) 9 294 42 lv [] (jhm b s.2) r)) (fun x => (jsm (fun y => (∀ lv : jL, ey (mm_xt L xs) 9 294 163 lv [] (jhm b y) r)) (fun z => (jsm (fun y => (∀ lv : jL, ey (mm_xt L xs) 9 294 205 lv [] (jhm b y) r)) (fun z => (∀ lv : jL, ey (mm_xt L xs) 9 294 358 lv [] (jhm b z) r)) z)) x)) o) : ∀ lv : jL, lv 0 = some (jR (some 76)) → lv 1 = some (jI x1) → lv 3 = some (jI x3) → lv 4 = some (jI x4) → lv 5 = some (jI x5) → lv 6 = some (jI x6) → lv 7 = some (jI x7) → lv 8 = some (jI x8) → ey (mm_xt L xs) 9 294 113 lv [jI y0, jR (some 76)] (jhm b m) r := by
  intro lv f0 f1 f3 f4 f5 f6 f7 f8
  unfold jd_294_b113 at e
  obtain ⟨m53, e54, e⟩ := jbind e
  refine ey_putf_i (cd_294 rfl) mt_294 rfl rfl rfl (jhm_pi' (k := 82) hb e54) ?_
  obtain ⟨x59, e60, e⟩ := jbind e
  refine jk_294_l116 hb h6 e60 ?_ lv f0 f1 f3 f4 f5 f6 f7 f8
  intro lv g0 g1 g3 g4 g5 g6 g8
  refine ey_bipush (cd_294 rfl) (by decide) ?_
  refine ey_iload (cd_294 rfl) g8 ?_
  refine ey_imul (cd_294 rfl) ?_
  refine ey_aload_n (cd_294 rfl) g0 ?_
  refine ey_getf_i (z := (x59.2 76 82)) (cd_294 rfl) mt_294 rfl rfl rfl (jhm_gi hb 82) ?_
  by_cases q61 : (jw (8 * x59.1)) ≤ (jw (x59.2 76 82))
  · rw [if_pos q61] at e
    refine ey_cle (cd_294 rfl) rfl rfl rfl q61 ?_
    refine ey_aload_n (cd_294 rfl) g0 ?_
    refine ey_dup (cd_294 rfl) rfl ?_
    refine ey_getf_i (z := (x59.2 76 82)) (cd_294 rfl) mt_294 rfl rfl rfl (jhm_gi hb 82) ?_
    refine ey_bipush (cd_294 rfl) (by decide) ?_
    refine ey_iload (cd_294 rfl) g8 ?_
    refine ey_imul (cd_294 rfl) ?_
    refine ey_isub (cd_294 rfl) ?_
    obtain ⟨m62, e63, e⟩ := jbind e
    refine ey_putf_i (cd_294 rfl) mt_294 rfl rfl rfl (jhm_pi' (k := 82) hb e63) ?_
    exact jk_294_b179 hb h6 e K lv g0 g1 g3 g4 g5 g6 g8
  · rw [if_neg q61] at e
    refine ey_nle (cd_294 rfl) rfl rfl rfl q61 ?_
    cases e
    exact K lv 
set_option maxRecDepth 100000 in
theorem jk_294_s42 {L : Nat} {xs : Nat → Int32} {b : jH} (hb : 152 ≤ b.1) (h6 : b.1 ≤ 1000000) {x1 : Int} {x3 : Int} {x4 : Int} {x5 : Int} {x6 : Int} {m : jM} {o : ((Int × jM) ⊕ (jM ⊕ (jM ⊕ jM)))} {r : mm_R} (e : jd_294_s42 x1 x3 x4 x5 x6 m = some o) (K : jsm (fun s => (∀ lv : jL, lv 0 = some (jR (some 76)) → lv 1 = some (jI x1) → lv 3 = some (jI x3) → lv 4 = some (jI x4) → lv 5 = some (jI x5) → lv 6 = some (jI s.1) → ey (mm_xt L xs) 9 294 42 lv [] (jhm b s.2) r)) (fun x => (jsm (fun y => (∀ lv : jL, ey (mm_xt L xs) 9 294 163 lv [] (jhm b y) r)) (fun z => (jsm (fun y => (∀ lv : jL, ey (mm_xt L xs) 9 294 205 lv [] (jhm b y) r)) (fun z => (∀ lv : jL, ey (mm_xt L xs) 9 294 358 lv [] (jhm b z) r)) z)) x)) o) : ∀ lv : jL, lv 0 = some (jR (some 76)) → lv 1 = some (jI x1) → lv 3 = some (jI x3) → lv 4 = some (jI x4) → lv 5 = some (jI x5) → lv 6 = some (jI x6) → ey (mm_xt L xs) 9 294 42 lv [] (jhm b m) r := by
  intro lv f0 f1 f3 f4 f5 f6
  unfold jd_294_s42 at e
  refine ey_iload (cd_294 rfl) f6 ?_
  refine ey_aload_n (cd_294 rfl) f0 ?_
  refine ey_getf_i (z := (m 76 35)) (cd_294 rfl) mt_294 rfl rfl rfl (jhm_gi hb 35) ?_
  by_cases q12 : (jw (m 76 35)) ≤ (jw x6)
  · rw [if_pos q12] at e
    refine ey_cge (cd_294 rfl) rfl rfl rfl q12 ?_
    cases e
    exact K lv 
  · rw [if_neg q12] at e
    refine ey_nge (cd_294 rfl) rfl rfl rfl q12 ?_
    refine ey_iload (cd_294 rfl) f4 ?_
    refine ey_istore (cd_294 rfl) mt_294 rfl ?_
    refine ey_aload_n (cd_294 rfl) f0 ?_
    refine ey_iload (cd_294 rfl) (jup_pi (lv := lv) (j := 6) (v := jI x4) (z := x6) f6) ?_
    refine ey_iload (cd_294 rfl) rfl ?_
    obtain ⟨q13, e14, e⟩ := jbind e
    refine ey_cv (s0 := [jI x4, jI x6, jR (some 76)]) (s1 := []) (st' := [jI q13.1]) (cd_294 rfl) mt_294 mt_291 rfl rfl rfl (jhm_is hb) rfl (jsml_s rfl) rfl (ok_291 hb h6 e14) ?_
    refine ey_istore (cd_294 rfl) mt_294 rfl ?_
    refine ey_iload (cd_294 rfl) f5 ?_
    by_cases q15 : (jw x5) = 0
    · rw [if_pos q15] at e
      refine ey_zeq (cd_294 rfl) rfl rfl q15 ?_
      exact jk_294_b179 hb h6 e K (jup (jup lv 7 (jI x4)) 8 (jI q13.1)) f0 f1 f3 f4 f5 (jup_o rfl (jup_pi (lv := lv) (j := 6) (v := jI x4) (z := x6) f6)) rfl
    · rw [if_neg q15] at e
      refine ey_yeq (cd_294 rfl) rfl rfl q15 ?_
      refine ey_aload_n (cd_294 rfl) f0 ?_
      refine ey_getf_r (cd_294 rfl) mt_294 rfl rfl rfl (jhm_gr (q := 82) hb rfl) ?_
      refine ey_iconst (cd_294 rfl) ?_
      obtain ⟨v48, e49, e⟩ := jbind e
      refine ey_iald (cd_294 rfl) (jhm_ai hb h6 (by decide) rfl e49) ?_
      refine ey_istore (cd_294 rfl) mt_294 rfl ?_
      refine ey_aload_n (cd_294 rfl) f0 ?_
      refine ey_aload_n (cd_294 rfl) f0 ?_
      refine ey_getf_i (z := (q13.2 76 82)) (cd_294 rfl) mt_294 rfl rfl rfl (jhm_gi hb 82) ?_
      refine ey_aload_n (cd_294 rfl) f0 ?_
      refine ey_getf_r (cd_294 rfl) mt_294 rfl rfl rfl (jhm_gr (q := 82) hb rfl) ?_
      refine ey_bipush (cd_294 rfl) (by decide) ?_
      obtain ⟨v50, e51, e⟩ := jbind e
      refine ey_iald (cd_294 rfl) (jhm_ai hb h6 (by decide) rfl e51) ?_
      refine ey_iadd (cd_294 rfl) ?_
      refine ey_iload (cd_294 rfl) rfl ?_
      by_cases q52 : (jw v48) ≤ (jw ((q13.2 76 82) + v50))
      · rw [if_pos q52] at e
        refine ey_cge (cd_294 rfl) rfl rfl rfl q52 ?_
        refine ey_iload (cd_294 rfl) rfl ?_
        exact jk_294_b113 hb h6 e K (jup (jup (jup lv 7 (jI x4)) 8 (jI q13.1)) 9 (jI v48)) f0 f1 f3 f4 f5 (jup_o rfl (jup_o rfl (jup_pi (lv := lv) (j := 6) (v := jI x4) (z := x6) f6))) (jup_o rfl (jup_pi (lv := (jup lv 7 (jI x4))) (j := 7) (v := jI q13.1) (z := x4) rfl)) (jup_pi (lv := (jup (jup lv 7 (jI x4)) 8 (jI q13.1))) (j := 8) (v := jI v48) (z := q13.1) rfl)
      · rw [if_neg q52] at e
        refine ey_nge (cd_294 rfl) rfl rfl rfl q52 ?_
        refine ey_aload_n (cd_294 rfl) f0 ?_
        refine ey_getf_i (z := (q13.2 76 82)) (cd_294 rfl) mt_294 rfl rfl rfl (jhm_gi hb 82) ?_
        refine ey_aload_n (cd_294 rfl) f0 ?_
        refine ey_getf_r (cd_294 rfl) mt_294 rfl rfl rfl (jhm_gr (q := 82) hb rfl) ?_
        refine ey_bipush (cd_294 rfl) (by decide) ?_
        obtain ⟨v64, e65, e⟩ := jbind e
        refine ey_iald (cd_294 rfl) (jhm_ai hb h6 (by decide) rfl e65) ?_
        refine ey_iadd (cd_294 rfl) ?_
        refine ey_goto (cd_294 rfl) rfl ?_
        exact jk_294_b113 hb h6 e K (jup (jup (jup lv 7 (jI x4)) 8 (jI q13.1)) 9 (jI v48)) f0 f1 f3 f4 f5 (jup_o rfl (jup_o rfl (jup_pi (lv := lv) (j := 6) (v := jI x4) (z := x6) f6))) (jup_o rfl (jup_pi (lv := (jup lv 7 (jI x4))) (j := 7) (v := jI q13.1) (z := x4) rfl)) (jup_pi (lv := (jup (jup lv 7 (jI x4)) 8 (jI q13.1))) (j := 8) (v := jI v48) (z := q13.1) rfl)
theorem jk_294_l42 {L : Nat} {xs : Nat → Int32} {b : jH} (hb : 152 ≤ b.1) (h6 : b.1 ≤ 1000000) {x1 : Int} {x3 : Int} {x4 : Int} {x5 : Int} {x6 : Int} {m : jM} {x : (jM ⊕ (jM ⊕ jM))} {r : mm_R} (e : jd_294_l42 x1 x3 x4 x5 x6 m = some x) (K : (jsm (fun y => (∀ lv : jL, ey (mm_xt L xs) 9 294 163 lv [] (jhm b y) r)) (fun z => (jsm (fun y => (∀ lv : jL, ey (mm_xt L xs) 9 294 205 lv [] (jhm b y) r)) (fun z => (∀ lv : jL, ey (mm_xt L xs) 9 294 358 lv [] (jhm b z) r)) z)) x)) : ∀ lv : jL, lv 0 = some (jR (some 76)) → lv 1 = some (jI x1) → lv 3 = some (jI x3) → lv 4 = some (jI x4) → lv 5 = some (jI x5) → lv 6 = some (jI x6) → ey (mm_xt L xs) 9 294 42 lv [] (jhm b m) r := by
  unfold jd_294_l42 at e
  exact jlp_ok2 (P := fun s => ∀ lv : jL, lv 0 = some (jR (some 76)) → lv 1 = some (jI x1) → lv 3 = some (jI x3) → lv 4 = some (jI x4) → lv 5 = some (jI x5) → lv 6 = some (jI s.1) → ey (mm_xt L xs) 9 294 42 lv [] (jhm b s.2) r) (Q := fun x => (jsm (fun y => (∀ lv : jL, ey (mm_xt L xs) 9 294 163 lv [] (jhm b y) r)) (fun z => (jsm (fun y => (∀ lv : jL, ey (mm_xt L xs) 9 294 205 lv [] (jhm b y) r)) (fun z => (∀ lv : jL, ey (mm_xt L xs) 9 294 358 lv [] (jhm b z) r)) z)) x)) (fun s q hq hk => jk_294_s42 hb h6 hq hk) jfu _ x e K
set_option maxRecDepth 100000 in
theorem ok_294 {L : Nat} {xs : Nat → Int32} {b : jH} (hb : 152 ≤ b.1) (h6 : b.1 ≤ 1000000) {p0 : Int} {p1 : Int} {p2 : Int} {p3 : Int} {p4 : Int} {m : jM} {o : (Int × jM)} (e : jd_294 p0 p1 p2 p3 p4 m = some o) : mm_Runs (mm_xt L xs) 10 294 ([jR (some 76), jI p0, jI p1, jI p2, jI p3, jI p4].map jcv) (jaH (jhm b m)) (.inl (some (jcv (jI o.1)), jaH (jhm b o.2))) := by
  refine ey_run0 _ mt_294 (jsl_s rfl) ?_
  unfold jd_294 at e
  refine ey_aload_n (cd_294 rfl) rfl ?_
  refine ey_iload_n (cd_294 rfl) rfl ?_
  obtain ⟨m1, e2, e⟩ := jbind e
  refine ey_cv (s0 := [jI p1, jR (some 76)]) (s1 := []) (st' := []) (cd_294 rfl) mt_294 mt_293 rfl rfl rfl (jhm_is hb) rfl (jsml_s rfl) rfl (mm_Runs.up (d := 1) (by decide) (ok_293 hb h6 e2)) ?_
  refine ey_aload_n (cd_294 rfl) rfl ?_
  refine ey_iconst (cd_294 rfl) ?_
  obtain ⟨m3, e4, e⟩ := jbind e
  refine ey_putf_i (cd_294 rfl) mt_294 rfl rfl rfl (jhm_pi' (k := 83) hb e4) ?_
  refine ey_iconst (cd_294 rfl) ?_
  refine ey_istore (cd_294 rfl) mt_294 rfl ?_
  obtain ⟨x10, e11, e⟩ := jbind e
  refine jk_294_l13 hb h6 e11 ?_ (jup (jlf (jla 0 [jR (some 76), jI p0, jI p1, jI p2, jI p3, jI p4])) 6 (jI 0)) rfl rfl rfl rfl (jup_pi (lv := (jlf (jla 0 [jR (some 76), jI p0, jI p1, jI p2, jI p3, jI p4]))) (j := 5) (v := jI 0) (z := p4) rfl) rfl
  intro lv g0 g1 g3 g4 g5
  refine ey_iconst (cd_294 rfl) ?_
  refine ey_istore (cd_294 rfl) mt_294 rfl ?_
  obtain ⟨x66, e67, e⟩ := jbind e
  refine jk_294_l42 hb h6 e67 ?_ (jup lv 6 (jI 0)) g0 g1 g3 g4 (jup_pi (lv := lv) (j := 5) (v := jI 0) (z := p4) g5) rfl
  cases x66 with
  | inl y68 =>
    replace e : (some (0, y68) : Option (Int × jM)) = some o := e
    intro lv 
    refine ey_iconst (cd_294 rfl) ?_
    cases e
    exact ey_retz (cd_294 rfl) mt_294 rfl (Or.inl rfl)
  | inr y69 =>
    replace e : (jse y69 (fun y70 => some (0, y70)) (fun y71 => some (1, y71)) : Option (Int × jM)) = some o := e
    cases y69 with
    | inl y70 =>
      replace e : (some (0, y70) : Option (Int × jM)) = some o := e
      intro lv 
      refine ey_iconst (cd_294 rfl) ?_
      cases e
      exact ey_retz (cd_294 rfl) mt_294 rfl (Or.inl rfl)
    | inr y71 =>
      replace e : (some (1, y71) : Option (Int × jM)) = some o := e
      intro lv 
      refine ey_iconst (cd_294 rfl) ?_
      cases e
      exact ey_retz (cd_294 rfl) mt_294 rfl (Or.inr rfl)
