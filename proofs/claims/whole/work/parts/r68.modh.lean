theorem cd_330 {pc : Nat} {i : Instr × Nat} (h : mm_lk mm_c330 pc = some i) : mm_cd 330 pc = some i := h
theorem mt_330 : mm_MT 330 = (12, 7, some .int, 0, 0, []) := rfl
set_option maxRecDepth 100000 in
theorem jk_330_b139 {L : Nat} {xs : Nat → Int32} {b : jH} (hb : 152 ≤ b.1) (h6 : b.1 ≤ 1000000) {x1 : Int} {x2 : Int} {x4 : Int} {y0 : Int} {m : jM} {o : ((Int × Int × Int) ⊕ (Int × Int))} {r : mm_R} (e : jd_330_b139 x1 x2 x4 y0 m = some o) (K : jsm (fun s => (∀ lv : jL, lv 0 = some (jR (some 76)) → lv 1 = some (jI x1) → lv 2 = some (jI s.1) → lv 3 = some (jI s.2.1) → lv 4 = some (jI s.2.2) → ey (mm_xt L xs) 12 330 52 lv [] (jhm b m) r)) (fun x => (∀ lv : jL, lv 0 = some (jR (some 76)) → lv 1 = some (jI x1) → lv 2 = some (jI x.1) → lv 3 = some (jI x.2) → ey (mm_xt L xs) 12 330 146 lv [] (jhm b m) r)) o) : ∀ lv : jL, lv 0 = some (jR (some 76)) → lv 1 = some (jI x1) → lv 2 = some (jI x2) → lv 4 = some (jI x4) → ey (mm_xt L xs) 12 330 139 lv [jI y0] (jhm b m) r := by
  intro lv f0 f1 f2 f4
  unfold jd_330_b139 at e
  refine ey_istore_n (cd_330 rfl) mt_330 rfl ?_
  refine ey_iinc (cd_330 rfl) mt_330 rfl f4 ?_
  refine ey_goto (cd_330 rfl) rfl ?_
  cases e
  exact K (jup (jup lv 3 (jI y0)) 4 (jI (x4 + 1))) f0 f1 (jup_o rfl (jup_pi (lv := lv) (j := 2) (v := jI y0) (z := x2) f2)) (jup_pi (lv := (jup lv 3 (jI y0))) (j := 3) (v := jI (x4 + 1)) (z := y0) rfl) rfl
set_option maxRecDepth 100000 in
theorem jk_330_b138 {L : Nat} {xs : Nat → Int32} {b : jH} (hb : 152 ≤ b.1) (h6 : b.1 ≤ 1000000) {x1 : Int} {x2 : Int} {x4 : Int} {m : jM} {o : ((Int × Int × Int) ⊕ (Int × Int))} {r : mm_R} (e : jd_330_b138 x1 x2 x4 m = some o) (K : jsm (fun s => (∀ lv : jL, lv 0 = some (jR (some 76)) → lv 1 = some (jI x1) → lv 2 = some (jI s.1) → lv 3 = some (jI s.2.1) → lv 4 = some (jI s.2.2) → ey (mm_xt L xs) 12 330 52 lv [] (jhm b m) r)) (fun x => (∀ lv : jL, lv 0 = some (jR (some 76)) → lv 1 = some (jI x1) → lv 2 = some (jI x.1) → lv 3 = some (jI x.2) → ey (mm_xt L xs) 12 330 146 lv [] (jhm b m) r)) o) : ∀ lv : jL, lv 0 = some (jR (some 76)) → lv 1 = some (jI x1) → lv 2 = some (jI x2) → lv 4 = some (jI x4) → ey (mm_xt L xs) 12 330 138 lv [] (jhm b m) r := by
  intro lv f0 f1 f2 f4
  unfold jd_330_b138 at e
  refine ey_iconst (cd_330 rfl) ?_
  exact jk_330_b139 hb h6 e K lv f0 f1 f2 f4
set_option maxRecDepth 100000 in
theorem jk_330_s52 {L : Nat} {xs : Nat → Int32} {b : jH} (hb : 152 ≤ b.1) (h6 : b.1 ≤ 1000000) {x1 : Int} {x2 : Int} {x3 : Int} {x4 : Int} {m : jM} {o : ((Int × Int × Int) ⊕ (Int × Int))} {r : mm_R} (e : jd_330_s52 x1 x2 x3 x4 m = some o) (K : jsm (fun s => (∀ lv : jL, lv 0 = some (jR (some 76)) → lv 1 = some (jI x1) → lv 2 = some (jI s.1) → lv 3 = some (jI s.2.1) → lv 4 = some (jI s.2.2) → ey (mm_xt L xs) 12 330 52 lv [] (jhm b m) r)) (fun x => (∀ lv : jL, lv 0 = some (jR (some 76)) → lv 1 = some (jI x1) → lv 2 = some (jI x.1) → lv 3 = some (jI x.2) → ey (mm_xt L xs) 12 330 146 lv [] (jhm b m) r)) o) : ∀ lv : jL, lv 0 = some (jR (some 76)) → lv 1 = some (jI x1) → lv 2 = some (jI x2) → lv 3 = some (jI x3) → lv 4 = some (jI x4) → ey (mm_xt L xs) 12 330 52 lv [] (jhm b m) r := by
  intro lv f0 f1 f2 f3 f4
  unfold jd_330_s52 at e
  refine ey_iload (cd_330 rfl) f4 ?_
  refine ey_iload_n (cd_330 rfl) f1 ?_
  by_cases q8 : (jw x1) ≤ (jw x4)
  · rw [if_pos q8] at e
    refine ey_cge (cd_330 rfl) rfl rfl rfl q8 ?_
    cases e
    exact K lv f0 f1 f2 f3
  · rw [if_neg q8] at e
    refine ey_nge (cd_330 rfl) rfl rfl rfl q8 ?_
    refine ey_iload_n (cd_330 rfl) f2 ?_
    refine ey_aload_n (cd_330 rfl) f0 ?_
    refine ey_getf_r (cd_330 rfl) mt_330 rfl rfl rfl (jhm_gr (q := 133) hb rfl) ?_
    refine ey_iload (cd_330 rfl) f4 ?_
    obtain ⟨v9, e10, e⟩ := jbind e
    refine ey_iald (cd_330 rfl) (jhm_ai hb h6 (by decide) rfl e10) ?_
    refine ey_aload_n (cd_330 rfl) f0 ?_
    refine ey_getf_r (cd_330 rfl) mt_330 rfl rfl rfl (jhm_gr (q := 132) hb rfl) ?_
    refine ey_iload (cd_330 rfl) f4 ?_
    obtain ⟨v11, e12, e⟩ := jbind e
    refine ey_iald (cd_330 rfl) (jhm_ai hb h6 (by decide) rfl e12) ?_
    refine ey_isub (cd_330 rfl) ?_
    refine ey_iconst (cd_330 rfl) ?_
    refine ey_iadd (cd_330 rfl) ?_
    refine ey_iadd (cd_330 rfl) ?_
    refine ey_istore_n (cd_330 rfl) mt_330 rfl ?_
    refine ey_iload_n (cd_330 rfl) f3 ?_
    by_cases q13 : (jw x3) = 0
    · rw [if_pos q13] at e
      refine ey_zeq (cd_330 rfl) rfl rfl q13 ?_
      exact jk_330_b138 hb h6 e K (jup lv 2 (jI (x2 + ((v9 - v11) + 1)))) f0 (jup_pi (lv := lv) (j := 1) (v := jI (x2 + ((v9 - v11) + 1))) (z := x1) f1) rfl f4
    · rw [if_neg q13] at e
      refine ey_yeq (cd_330 rfl) rfl rfl q13 ?_
      refine ey_aload_n (cd_330 rfl) f0 ?_
      refine ey_getf_r (cd_330 rfl) mt_330 rfl rfl rfl (jhm_gr (q := 84) hb rfl) ?_
      refine ey_aload_n (cd_330 rfl) f0 ?_
      refine ey_getf_r (cd_330 rfl) mt_330 rfl rfl rfl (jhm_gr (q := 131) hb rfl) ?_
      refine ey_iload (cd_330 rfl) f4 ?_
      obtain ⟨v14, e15, e⟩ := jbind e
      refine ey_iald (cd_330 rfl) (jhm_ai hb h6 (by decide) rfl e15) ?_
      obtain ⟨v16, e17, e⟩ := jbind e
      refine ey_iald (cd_330 rfl) (jhm_ai hb h6 (by decide) rfl e17) ?_
      refine ey_aload_n (cd_330 rfl) f0 ?_
      refine ey_getf_r (cd_330 rfl) mt_330 rfl rfl rfl (jhm_gr (q := 84) hb rfl) ?_
      refine ey_aload_n (cd_330 rfl) f0 ?_
      refine ey_getf_r (cd_330 rfl) mt_330 rfl rfl rfl (jhm_gr (q := 131) hb rfl) ?_
      refine ey_iconst (cd_330 rfl) ?_
      obtain ⟨v18, e19, e⟩ := jbind e
      refine ey_iald (cd_330 rfl) (jhm_ai hb h6 (by decide) rfl e19) ?_
      obtain ⟨v20, e21, e⟩ := jbind e
      refine ey_iald (cd_330 rfl) (jhm_ai hb h6 (by decide) rfl e21) ?_
      by_cases q22 : (jw v16) = (jw v20)
      · rw [if_pos q22] at e
        refine ey_nne (cd_330 rfl) rfl rfl rfl (fun w => w q22) ?_
        refine ey_aload_n (cd_330 rfl) f0 ?_
        refine ey_getf_r (cd_330 rfl) mt_330 rfl rfl rfl (jhm_gr (q := 85) hb rfl) ?_
        refine ey_aload_n (cd_330 rfl) f0 ?_
        refine ey_getf_r (cd_330 rfl) mt_330 rfl rfl rfl (jhm_gr (q := 131) hb rfl) ?_
        refine ey_iload (cd_330 rfl) f4 ?_
        obtain ⟨v23, e24, e⟩ := jbind e
        refine ey_iald (cd_330 rfl) (jhm_ai hb h6 (by decide) rfl e24) ?_
        obtain ⟨v25, e26, e⟩ := jbind e
        refine ey_iald (cd_330 rfl) (jhm_ai hb h6 (by decide) rfl e26) ?_
        refine ey_aload_n (cd_330 rfl) f0 ?_
        refine ey_getf_r (cd_330 rfl) mt_330 rfl rfl rfl (jhm_gr (q := 85) hb rfl) ?_
        refine ey_aload_n (cd_330 rfl) f0 ?_
        refine ey_getf_r (cd_330 rfl) mt_330 rfl rfl rfl (jhm_gr (q := 131) hb rfl) ?_
        refine ey_iconst (cd_330 rfl) ?_
        obtain ⟨v27, e28, e⟩ := jbind e
        refine ey_iald (cd_330 rfl) (jhm_ai hb h6 (by decide) rfl e28) ?_
        obtain ⟨v29, e30, e⟩ := jbind e
        refine ey_iald (cd_330 rfl) (jhm_ai hb h6 (by decide) rfl e30) ?_
        have K31 : ∀ lv : jL, lv 0 = some (jR (some 76)) → lv 1 = some (jI x1) → lv 2 = some (jI (x2 + ((v9 - v11) + 1))) → lv 4 = some (jI x4) → ey (mm_xt L xs) 12 330 139 lv [jI (if (jw v25) = (jw v29) then 1 else 0)] (jhm b m) r := by
          intro lv g0 g1 g2 g4
          exact jk_330_b139 hb h6 e K lv g0 g1 g2 g4
        by_cases q32 : (jw v25) = (jw v29)
        · refine ey_nne (cd_330 rfl) rfl rfl rfl (fun w => w q32) ?_
          refine ey_iconst (cd_330 rfl) ?_
          refine ey_goto (cd_330 rfl) rfl ?_
          exact ey_rs (s0 := [jI 1]) (s1 := [jI (if (jw v25) = (jw v29) then 1 else 0)]) (by rw [show ((if (jw v25) = (jw v29) then 1 else 0) : Int) = 1 from (if_pos q32)]) (K31 (jup lv 2 (jI (x2 + ((v9 - v11) + 1)))) f0 (jup_pi (lv := lv) (j := 1) (v := jI (x2 + ((v9 - v11) + 1))) (z := x1) f1) rfl f4)
        · refine ey_cne (cd_330 rfl) rfl rfl rfl q32 ?_
          refine ey_iconst (cd_330 rfl) ?_
          exact ey_rs (s0 := [jI 0]) (s1 := [jI (if (jw v25) = (jw v29) then 1 else 0)]) (by rw [show ((if (jw v25) = (jw v29) then 1 else 0) : Int) = 0 from (if_neg q32)]) (K31 (jup lv 2 (jI (x2 + ((v9 - v11) + 1)))) f0 (jup_pi (lv := lv) (j := 1) (v := jI (x2 + ((v9 - v11) + 1))) (z := x1) f1) rfl f4)
      · rw [if_neg q22] at e
        refine ey_cne (cd_330 rfl) rfl rfl rfl q22 ?_
        exact jk_330_b138 hb h6 e K (jup lv 2 (jI (x2 + ((v9 - v11) + 1)))) f0 (jup_pi (lv := lv) (j := 1) (v := jI (x2 + ((v9 - v11) + 1))) (z := x1) f1) rfl f4
theorem jk_330_l52 {L : Nat} {xs : Nat → Int32} {b : jH} (hb : 152 ≤ b.1) (h6 : b.1 ≤ 1000000) {x1 : Int} {x2 : Int} {x3 : Int} {x4 : Int} {m : jM} {x : (Int × Int)} {r : mm_R} (e : jd_330_l52 x1 x2 x3 x4 m = some x) (K : (∀ lv : jL, lv 0 = some (jR (some 76)) → lv 1 = some (jI x1) → lv 2 = some (jI x.1) → lv 3 = some (jI x.2) → ey (mm_xt L xs) 12 330 146 lv [] (jhm b m) r)) : ∀ lv : jL, lv 0 = some (jR (some 76)) → lv 1 = some (jI x1) → lv 2 = some (jI x2) → lv 3 = some (jI x3) → lv 4 = some (jI x4) → ey (mm_xt L xs) 12 330 52 lv [] (jhm b m) r := by
  unfold jd_330_l52 at e
  exact jlp_ok2 (P := fun s => ∀ lv : jL, lv 0 = some (jR (some 76)) → lv 1 = some (jI x1) → lv 2 = some (jI s.1) → lv 3 = some (jI s.2.1) → lv 4 = some (jI s.2.2) → ey (mm_xt L xs) 12 330 52 lv [] (jhm b m) r) (Q := fun x => (∀ lv : jL, lv 0 = some (jR (some 76)) → lv 1 = some (jI x1) → lv 2 = some (jI x.1) → lv 3 = some (jI x.2) → ey (mm_xt L xs) 12 330 146 lv [] (jhm b m) r)) (fun s q hq hk => jk_330_s52 hb h6 hq hk) jfu _ x e K
set_option maxRecDepth 100000 in
theorem jk_330_b156 {L : Nat} {xs : Nat → Int32} {b : jH} (hb : 152 ≤ b.1) (h6 : b.1 ≤ 1000000)  {m : jM} {o : (Int × jM)} (e : jd_330_b156  m = some o) : ∀ lv : jL, ey (mm_xt L xs) 12 330 156 lv [] (jhm b m) (.inl (some (jcv (jI o.1)), jaH (jhm b o.2))) := by
  intro lv 
  unfold jd_330_b156 at e
  refine ey_iconst (cd_330 rfl) ?_
  cases e
  exact ey_reti (cd_330 rfl) mt_330 rfl
set_option maxRecDepth 100000 in
theorem jk_330_s217 {L : Nat} {xs : Nat → Int32} {b : jH} (hb : 152 ≤ b.1) (h6 : b.1 ≤ 1000000) {x1 : Int} {x2 : Int} {x4 : Int} {m : jM} {o : ((Int × jM) ⊕ (jM ⊕ jM))} {r : mm_R} (e : jd_330_s217 x1 x2 x4 m = some o) (K : jsm (fun s => (∀ lv : jL, lv 0 = some (jR (some 76)) → lv 1 = some (jI x1) → lv 2 = some (jI x2) → lv 4 = some (jI s.1) → ey (mm_xt L xs) 12 330 217 lv [] (jhm b s.2) r)) (fun x => (jsm (fun y => (∀ lv : jL, ey (mm_xt L xs) 12 330 251 lv [] (jhm b y) r)) (fun z => (∀ lv : jL, lv 0 = some (jR (some 76)) → lv 2 = some (jI x2) → ey (mm_xt L xs) 12 330 259 lv [] (jhm b z) r)) x)) o) : ∀ lv : jL, lv 0 = some (jR (some 76)) → lv 1 = some (jI x1) → lv 2 = some (jI x2) → lv 4 = some (jI x4) → ey (mm_xt L xs) 12 330 217 lv [] (jhm b m) r := by
  intro lv f0 f1 f2 f4
  unfold jd_330_s217 at e
  refine ey_iload (cd_330 rfl) f4 ?_
  refine ey_iload_n (cd_330 rfl) f1 ?_
  by_cases q59 : (jw x1) ≤ (jw x4)
  · rw [if_pos q59] at e
    refine ey_cge (cd_330 rfl) rfl rfl rfl q59 ?_
    cases e
    exact K lv f0 f2
  · rw [if_neg q59] at e
    refine ey_nge (cd_330 rfl) rfl rfl rfl q59 ?_
    refine ey_aload_n (cd_330 rfl) f0 ?_
    refine ey_aload_n (cd_330 rfl) f0 ?_
    refine ey_getf_r (cd_330 rfl) mt_330 rfl rfl rfl (jhm_gr (q := 131) hb rfl) ?_
    refine ey_iload (cd_330 rfl) f4 ?_
    obtain ⟨v60, e61, e⟩ := jbind e
    refine ey_iald (cd_330 rfl) (jhm_ai hb h6 (by decide) rfl e61) ?_
    refine ey_aload_n (cd_330 rfl) f0 ?_
    refine ey_getf_r (cd_330 rfl) mt_330 rfl rfl rfl (jhm_gr (q := 132) hb rfl) ?_
    refine ey_iload (cd_330 rfl) f4 ?_
    obtain ⟨v62, e63, e⟩ := jbind e
    refine ey_iald (cd_330 rfl) (jhm_ai hb h6 (by decide) rfl e63) ?_
    refine ey_aload_n (cd_330 rfl) f0 ?_
    refine ey_getf_r (cd_330 rfl) mt_330 rfl rfl rfl (jhm_gr (q := 133) hb rfl) ?_
    refine ey_iload (cd_330 rfl) f4 ?_
    obtain ⟨v64, e65, e⟩ := jbind e
    refine ey_iald (cd_330 rfl) (jhm_ai hb h6 (by decide) rfl e65) ?_
    obtain ⟨q66, e67, e⟩ := jbind e
    refine ey_cv (s0 := [jI v64, jI v62, jI v60, jR (some 76)]) (s1 := []) (st' := [jI q66.1]) (cd_330 rfl) mt_330 mt_327 rfl rfl rfl (jhm_is hb) rfl (jsml_s rfl) rfl (ok_327 hb h6 e67) ?_
    by_cases q68 : (jw q66.1) = 0
    · rw [if_pos q68] at e
      refine ey_yne (cd_330 rfl) rfl rfl (fun w => w q68) ?_
      cases e
      exact K lv 
    · rw [if_neg q68] at e
      refine ey_zne (cd_330 rfl) rfl rfl q68 ?_
      refine ey_iinc (cd_330 rfl) mt_330 rfl f4 ?_
      refine ey_goto (cd_330 rfl) rfl ?_
      cases e
      exact K (jup lv 4 (jI (x4 + 1))) f0 f1 f2 rfl
theorem jk_330_l217 {L : Nat} {xs : Nat → Int32} {b : jH} (hb : 152 ≤ b.1) (h6 : b.1 ≤ 1000000) {x1 : Int} {x2 : Int} {x4 : Int} {m : jM} {x : (jM ⊕ jM)} {r : mm_R} (e : jd_330_l217 x1 x2 x4 m = some x) (K : (jsm (fun y => (∀ lv : jL, ey (mm_xt L xs) 12 330 251 lv [] (jhm b y) r)) (fun z => (∀ lv : jL, lv 0 = some (jR (some 76)) → lv 2 = some (jI x2) → ey (mm_xt L xs) 12 330 259 lv [] (jhm b z) r)) x)) : ∀ lv : jL, lv 0 = some (jR (some 76)) → lv 1 = some (jI x1) → lv 2 = some (jI x2) → lv 4 = some (jI x4) → ey (mm_xt L xs) 12 330 217 lv [] (jhm b m) r := by
  unfold jd_330_l217 at e
  exact jlp_ok2 (P := fun s => ∀ lv : jL, lv 0 = some (jR (some 76)) → lv 1 = some (jI x1) → lv 2 = some (jI x2) → lv 4 = some (jI s.1) → ey (mm_xt L xs) 12 330 217 lv [] (jhm b s.2) r) (Q := fun x => (jsm (fun y => (∀ lv : jL, ey (mm_xt L xs) 12 330 251 lv [] (jhm b y) r)) (fun z => (∀ lv : jL, lv 0 = some (jR (some 76)) → lv 2 = some (jI x2) → ey (mm_xt L xs) 12 330 259 lv [] (jhm b z) r)) x)) (fun s q hq hk => jk_330_s217 hb h6 hq hk) jfu _ x e K
set_option maxRecDepth 100000 in
theorem jk_330_s282 {L : Nat} {xs : Nat → Int32} {b : jH} (hb : 152 ≤ b.1) (h6 : b.1 ≤ 1000000) {x2 : Int} {x5 : Int} {x6 : Int} {m : jM} {o : ((Int × jM) ⊕ jM)} {r : mm_R} (e : jd_330_s282 x2 x5 x6 m = some o) (K : jsm (fun s => (∀ lv : jL, lv 0 = some (jR (some 76)) → lv 2 = some (jI x2) → lv 5 = some (jI x5) → lv 6 = some (jI s.1) → ey (mm_xt L xs) 12 330 282 lv [] (jhm b s.2) r)) (fun x => (∀ lv : jL, lv 5 = some (jI x5) → ey (mm_xt L xs) 12 330 325 lv [] (jhm b x) r)) o) : ∀ lv : jL, lv 0 = some (jR (some 76)) → lv 2 = some (jI x2) → lv 5 = some (jI x5) → lv 6 = some (jI x6) → ey (mm_xt L xs) 12 330 282 lv [] (jhm b m) r := by
  intro lv f0 f2 f5 f6
  unfold jd_330_s282 at e
  refine ey_iload (cd_330 rfl) f6 ?_
  refine ey_iload_n (cd_330 rfl) f2 ?_
  by_cases q78 : (jw x2) ≤ (jw x6)
  · rw [if_pos q78] at e
    refine ey_cge (cd_330 rfl) rfl rfl rfl q78 ?_
    cases e
    exact K lv f5
  · rw [if_neg q78] at e
    refine ey_nge (cd_330 rfl) rfl rfl rfl q78 ?_
    refine ey_aload_n (cd_330 rfl) f0 ?_
    refine ey_getf_r (cd_330 rfl) mt_330 rfl rfl rfl (jhm_gr (q := 98) hb rfl) ?_
    refine ey_bipush (cd_330 rfl) (by decide) ?_
    refine ey_iload (cd_330 rfl) f5 ?_
    refine ey_imul (cd_330 rfl) ?_
    refine ey_iload (cd_330 rfl) f6 ?_
    refine ey_iadd (cd_330 rfl) ?_
    refine ey_aload_n (cd_330 rfl) f0 ?_
    refine ey_getf_r (cd_330 rfl) mt_330 rfl rfl rfl (jhm_gr (q := 134) hb rfl) ?_
    refine ey_aload_n (cd_330 rfl) f0 ?_
    refine ey_getf_r (cd_330 rfl) mt_330 rfl rfl rfl (jhm_gr (q := 91) hb rfl) ?_
    refine ey_bipush (cd_330 rfl) (by decide) ?_
    refine ey_iload (cd_330 rfl) f5 ?_
    refine ey_imul (cd_330 rfl) ?_
    refine ey_iload (cd_330 rfl) f6 ?_
    refine ey_iadd (cd_330 rfl) ?_
    obtain ⟨v79, e80, e⟩ := jbind e
    refine ey_iald (cd_330 rfl) (jhm_ai hb h6 (by decide) rfl e80) ?_
    obtain ⟨v81, e82, e⟩ := jbind e
    refine ey_zald (cd_330 rfl) (jhm_az hb (by decide) rfl e82) ?_
    obtain ⟨m83, e84, e⟩ := jbind e
    refine ey_zast (cd_330 rfl) (jhm_ta hb (by decide) rfl e84) ?_
    refine ey_iinc (cd_330 rfl) mt_330 rfl f6 ?_
    refine ey_goto (cd_330 rfl) rfl ?_
    cases e
    exact K (jup lv 6 (jI (x6 + 1))) f0 f2 (jup_pi (lv := lv) (j := 5) (v := jI (x6 + 1)) (z := x5) f5) rfl
theorem jk_330_l282 {L : Nat} {xs : Nat → Int32} {b : jH} (hb : 152 ≤ b.1) (h6 : b.1 ≤ 1000000) {x2 : Int} {x5 : Int} {x6 : Int} {m : jM} {x : jM} {r : mm_R} (e : jd_330_l282 x2 x5 x6 m = some x) (K : (∀ lv : jL, lv 5 = some (jI x5) → ey (mm_xt L xs) 12 330 325 lv [] (jhm b x) r)) : ∀ lv : jL, lv 0 = some (jR (some 76)) → lv 2 = some (jI x2) → lv 5 = some (jI x5) → lv 6 = some (jI x6) → ey (mm_xt L xs) 12 330 282 lv [] (jhm b m) r := by
  unfold jd_330_l282 at e
  exact jlp_ok2 (P := fun s => ∀ lv : jL, lv 0 = some (jR (some 76)) → lv 2 = some (jI x2) → lv 5 = some (jI x5) → lv 6 = some (jI s.1) → ey (mm_xt L xs) 12 330 282 lv [] (jhm b s.2) r) (Q := fun x => (∀ lv : jL, lv 5 = some (jI x5) → ey (mm_xt L xs) 12 330 325 lv [] (jhm b x) r)) (fun s q hq hk => jk_330_s282 hb h6 hq hk) jfu _ x e K
set_option maxRecDepth 100000 in
theorem ok_330 {L : Nat} {xs : Nat → Int32} {b : jH} (hb : 152 ≤ b.1) (h6 : b.1 ≤ 1000000)  {m : jM} {o : (Int × jM)} (e : jd_330  m = some o) : mm_Runs (mm_xt L xs) 13 330 ([jR (some 76)].map jcv) (jaH (jhm b m)) (.inl (some (jcv (jI o.1)), jaH (jhm b o.2))) := by
  refine ey_run0 _ mt_330 (jsl_s rfl) ?_
  unfold jd_330 at e
  refine ey_aload_n (cd_330 rfl) rfl ?_
  refine ey_aload_n (cd_330 rfl) rfl ?_
  refine ey_getf_i (z := (m 76 12)) (cd_330 rfl) mt_330 rfl rfl rfl (jhm_gi hb 12) ?_
  refine ey_bipush (cd_330 rfl) (by decide) ?_
  have K89 : ∀ lv : jL, lv 0 = some (jR (some 76)) → ey (mm_xt L xs) 12 330 15 lv [jI (if (jw (m 76 12)) = 8 then 1 else 0), jR (some 76)] (jhm b m) (.inl (some (jcv (jI o.1)), jaH (jhm b o.2))) := by
    intro lv g0
    obtain ⟨m1, e2, e⟩ := jbind e
    refine ey_putf_i (cd_330 rfl) mt_330 rfl rfl rfl (jhm_pi' (k := 0) hb e2) ?_
    refine ey_aload_n (cd_330 rfl) g0 ?_
    refine ey_getf_i (z := (m1 76 0)) (cd_330 rfl) mt_330 rfl rfl rfl (jhm_gi hb 0) ?_
    by_cases q3 : (jw (m1 76 0)) ≤ 0
    · rw [if_pos q3] at e
      refine ey_zle (cd_330 rfl) rfl rfl q3 ?_
      refine ey_aload_n (cd_330 rfl) g0 ?_
      refine ey_getf_i (z := (m1 76 86)) (cd_330 rfl) mt_330 rfl rfl rfl (jhm_gi hb 86) ?_
      refine ey_istore_n (cd_330 rfl) mt_330 rfl ?_
      refine ey_aload_n (cd_330 rfl) (jup_pr (lv := lv) (j := 0) (v := jI (m1 76 86)) (z := (some 76)) g0) ?_
      refine ey_iconst (cd_330 rfl) ?_
      obtain ⟨m4, e5, e⟩ := jbind e
      refine ey_putf_i (cd_330 rfl) mt_330 rfl rfl rfl (jhm_pi' (k := 86) hb e5) ?_
      refine ey_iconst (cd_330 rfl) ?_
      refine ey_istore_n (cd_330 rfl) mt_330 rfl ?_
      refine ey_iload_n (cd_330 rfl) (jup_pi (lv := (jup lv 1 (jI (m1 76 86)))) (j := 1) (v := jI 0) (z := (m1 76 86)) rfl) ?_
      have K87 : ∀ lv : jL, lv 0 = some (jR (some 76)) → lv 1 = some (jI (m1 76 86)) → lv 2 = some (jI 0) → ey (mm_xt L xs) 12 330 48 lv [jI (if (jw (m1 76 86)) ≤ 0 then 0 else 1)] (jhm b m4) (.inl (some (jcv (jI o.1)), jaH (jhm b o.2))) := by
        intro lv g0 g1 g2
        obtain ⟨z6, e7, e⟩ := jbind e
        refine ey_rs (s0 := [jI (if (jw (m1 76 86)) ≤ 0 then 0 else 1)]) (s1 := [jI z6]) (by rw [show (if (jw (m1 76 86)) ≤ 0 then 0 else 1) = z6 from Option.some.inj e7]) ?_
        refine ey_istore_n (cd_330 rfl) mt_330 rfl ?_
        refine ey_iconst (cd_330 rfl) ?_
        refine ey_istore (cd_330 rfl) mt_330 rfl ?_
        obtain ⟨x33, e34, e⟩ := jbind e
        refine jk_330_l52 hb h6 e34 ?_ (jup (jup lv 3 (jI z6)) 4 (jI 0)) g0 g1 (jup_o rfl (jup_pi (lv := lv) (j := 2) (v := jI z6) (z := 0) g2)) (jup_pi (lv := (jup lv 3 (jI z6))) (j := 3) (v := jI 0) (z := z6) rfl) rfl
        intro lv g0 g1 g2 g3
        refine ey_iload_n (cd_330 rfl) g3 ?_
        by_cases q35 : (jw x33.2) = 0
        · rw [if_pos q35] at e
          refine ey_zeq (cd_330 rfl) rfl rfl q35 ?_
          exact jk_330_b156 hb h6 e lv 
        · rw [if_neg q35] at e
          refine ey_yeq (cd_330 rfl) rfl rfl q35 ?_
          refine ey_iload_n (cd_330 rfl) g2 ?_
          refine ey_bipush (cd_330 rfl) (by decide) ?_
          by_cases q36 : (jw x33.1) ≤ 12
          · rw [if_pos q36] at e
            refine ey_cle (cd_330 rfl) rfl rfl (show jw 12 = 12 from by decide) q36 ?_
            refine ey_aload_n (cd_330 rfl) g0 ?_
            refine ey_iconst (cd_330 rfl) ?_
            obtain ⟨m37, e38, e⟩ := jbind e
            refine ey_putf_i (cd_330 rfl) mt_330 rfl rfl rfl (jhm_pi' (k := 32) hb e38) ?_
            refine ey_aload_n (cd_330 rfl) g0 ?_
            refine ey_aload_n (cd_330 rfl) g0 ?_
            refine ey_getf_r (cd_330 rfl) mt_330 rfl rfl rfl (jhm_gr (q := 84) hb rfl) ?_
            refine ey_aload_n (cd_330 rfl) g0 ?_
            refine ey_getf_r (cd_330 rfl) mt_330 rfl rfl rfl (jhm_gr (q := 131) hb rfl) ?_
            refine ey_iconst (cd_330 rfl) ?_
            obtain ⟨v39, e40, e⟩ := jbind e
            refine ey_iald (cd_330 rfl) (jhm_ai hb h6 (by decide) rfl e40) ?_
            obtain ⟨v41, e42, e⟩ := jbind e
            refine ey_iald (cd_330 rfl) (jhm_ai hb h6 (by decide) rfl e42) ?_
            obtain ⟨m43, e44, e⟩ := jbind e
            refine ey_putf_i (cd_330 rfl) mt_330 rfl rfl rfl (jhm_pi' (k := 33) hb e44) ?_
            refine ey_aload_n (cd_330 rfl) g0 ?_
            refine ey_aload_n (cd_330 rfl) g0 ?_
            refine ey_getf_r (cd_330 rfl) mt_330 rfl rfl rfl (jhm_gr (q := 85) hb rfl) ?_
            refine ey_aload_n (cd_330 rfl) g0 ?_
            refine ey_getf_r (cd_330 rfl) mt_330 rfl rfl rfl (jhm_gr (q := 131) hb rfl) ?_
            refine ey_iconst (cd_330 rfl) ?_
            obtain ⟨v45, e46, e⟩ := jbind e
            refine ey_iald (cd_330 rfl) (jhm_ai hb h6 (by decide) rfl e46) ?_
            obtain ⟨v47, e48, e⟩ := jbind e
            refine ey_iald (cd_330 rfl) (jhm_ai hb h6 (by decide) rfl e48) ?_
            obtain ⟨m49, e50, e⟩ := jbind e
            refine ey_putf_i (cd_330 rfl) mt_330 rfl rfl rfl (jhm_pi' (k := 34) hb e50) ?_
            refine ey_aload_n (cd_330 rfl) g0 ?_
            refine ey_aload_n (cd_330 rfl) g0 ?_
            refine ey_getf_r (cd_330 rfl) mt_330 rfl rfl rfl (jhm_gr (q := 86) hb rfl) ?_
            refine ey_aload_n (cd_330 rfl) g0 ?_
            refine ey_getf_r (cd_330 rfl) mt_330 rfl rfl rfl (jhm_gr (q := 131) hb rfl) ?_
            refine ey_iconst (cd_330 rfl) ?_
            obtain ⟨v51, e52, e⟩ := jbind e
            refine ey_iald (cd_330 rfl) (jhm_ai hb h6 (by decide) rfl e52) ?_
            obtain ⟨v53, e54, e⟩ := jbind e
            refine ey_iald (cd_330 rfl) (jhm_ai hb h6 (by decide) rfl e54) ?_
            refine ey_iload_n (cd_330 rfl) g2 ?_
            obtain ⟨m55, e56, e⟩ := jbind e
            refine ey_cv (s0 := [jI x33.1, jI v53, jR (some 76)]) (s1 := []) (st' := []) (cd_330 rfl) mt_330 mt_295 rfl rfl rfl (jhm_is hb) rfl (jsml_s rfl) rfl (mm_Runs.up (d := 2) (by decide) (ok_295 hb h6 e56)) ?_
            refine ey_aload_n (cd_330 rfl) g0 ?_
            refine ey_iconst (cd_330 rfl) ?_
            obtain ⟨m57, e58, e⟩ := jbind e
            refine ey_putf_i (cd_330 rfl) mt_330 rfl rfl rfl (jhm_pi' (k := 91) hb e58) ?_
            refine ey_iconst (cd_330 rfl) ?_
            refine ey_istore (cd_330 rfl) mt_330 rfl ?_
            obtain ⟨x69, e70, e⟩ := jbind e
            refine jk_330_l217 hb h6 e70 ?_ (jup lv 4 (jI 0)) g0 g1 g2 rfl
            cases x69 with
            | inl y71 =>
              replace e : (some ((-1), y71) : Option (Int × jM)) = some o := e
              intro lv 
              refine ey_iconst (cd_330 rfl) ?_
              cases e
              exact ey_reti (cd_330 rfl) mt_330 rfl
            | inr y72 =>
              replace e : (((jd_301 y72).bind fun q73 => (if (jw q73.1) = (-1) then ((jd_308 q73.2).bind fun q76 => ((jd_330_l282 x33.1 q76.1 0 q76.2).bind fun x85 => some (q76.1, x85))) else some ((-1), q73.2))) : Option (Int × jM)) = some o := e
              intro lv g0 g2
              refine ey_aload_n (cd_330 rfl) g0 ?_
              obtain ⟨q73, e74, e⟩ := jbind e
              refine ey_cv (s0 := [jR (some 76)]) (s1 := []) (st' := [jI q73.1]) (cd_330 rfl) mt_330 mt_301 rfl rfl rfl (jhm_is hb) rfl (jsml_s rfl) rfl (mm_Runs.up (d := 5) (by decide) (ok_301 hb h6 e74)) ?_
              refine ey_istore (cd_330 rfl) mt_330 rfl ?_
              refine ey_iload (cd_330 rfl) rfl ?_
              refine ey_iconst (cd_330 rfl) ?_
              by_cases q75 : (jw q73.1) = (-1)
              · rw [if_pos q75] at e
                refine ey_ceq (cd_330 rfl) rfl rfl (show jw (-1) = (-1) from by decide) q75 ?_
                refine ey_aload_n (cd_330 rfl) g0 ?_
                obtain ⟨q76, e77, e⟩ := jbind e
                refine ey_cv (s0 := [jR (some 76)]) (s1 := []) (st' := [jI q76.1]) (cd_330 rfl) mt_330 mt_308 rfl rfl rfl (jhm_is hb) rfl (jsml_s rfl) rfl (mm_Runs.up (d := 10) (by decide) (ok_308 hb h6 e77)) ?_
                refine ey_istore (cd_330 rfl) mt_330 rfl ?_
                refine ey_iconst (cd_330 rfl) ?_
                refine ey_istore (cd_330 rfl) mt_330 rfl ?_
                obtain ⟨x85, e86, e⟩ := jbind e
                refine jk_330_l282 hb h6 e86 ?_ (jup (jup (jup lv 4 (jI q73.1)) 5 (jI q76.1)) 6 (jI 0)) g0 g2 (jup_pi (lv := (jup (jup lv 4 (jI q73.1)) 5 (jI q76.1))) (j := 5) (v := jI 0) (z := q76.1) rfl) rfl
                intro lv g5
                refine ey_iload (cd_330 rfl) g5 ?_
                cases e
                exact ey_reti (cd_330 rfl) mt_330 rfl
              · rw [if_neg q75] at e
                refine ey_neq (cd_330 rfl) rfl rfl (show jw (-1) = (-1) from by decide) q75 ?_
                refine ey_iconst (cd_330 rfl) ?_
                cases e
                exact ey_reti (cd_330 rfl) mt_330 rfl
          · rw [if_neg q36] at e
            refine ey_nle (cd_330 rfl) rfl rfl (show jw 12 = 12 from by decide) q36 ?_
            exact jk_330_b156 hb h6 e lv 
      by_cases q88 : (jw (m1 76 86)) ≤ 0
      · refine ey_zle (cd_330 rfl) rfl rfl q88 ?_
        refine ey_iconst (cd_330 rfl) ?_
        exact ey_rs (s0 := [jI 0]) (s1 := [jI (if (jw (m1 76 86)) ≤ 0 then 0 else 1)]) (by rw [show ((if (jw (m1 76 86)) ≤ 0 then 0 else 1) : Int) = 0 from (if_pos q88)]) (K87 (jup (jup lv 1 (jI (m1 76 86))) 2 (jI 0)) (jup_o rfl (jup_pr (lv := lv) (j := 0) (v := jI (m1 76 86)) (z := (some 76)) g0)) (jup_pi (lv := (jup lv 1 (jI (m1 76 86)))) (j := 1) (v := jI 0) (z := (m1 76 86)) rfl) rfl)
      · refine ey_yle (cd_330 rfl) rfl rfl q88 ?_
        refine ey_iconst (cd_330 rfl) ?_
        refine ey_goto (cd_330 rfl) rfl ?_
        exact ey_rs (s0 := [jI 1]) (s1 := [jI (if (jw (m1 76 86)) ≤ 0 then 0 else 1)]) (by rw [show ((if (jw (m1 76 86)) ≤ 0 then 0 else 1) : Int) = 1 from (if_neg q88)]) (K87 (jup (jup lv 1 (jI (m1 76 86))) 2 (jI 0)) (jup_o rfl (jup_pr (lv := lv) (j := 0) (v := jI (m1 76 86)) (z := (some 76)) g0)) (jup_pi (lv := (jup lv 1 (jI (m1 76 86)))) (j := 1) (v := jI 0) (z := (m1 76 86)) rfl) rfl)
    · rw [if_neg q3] at e
      refine ey_yle (cd_330 rfl) rfl rfl q3 ?_
      refine ey_iconst (cd_330 rfl) ?_
      cases e
      exact ey_reti (cd_330 rfl) mt_330 rfl
  by_cases q90 : (jw (m 76 12)) = 8
  · refine ey_nne (cd_330 rfl) rfl rfl (show jw 8 = 8 from by decide) (fun w => w q90) ?_
    refine ey_iconst (cd_330 rfl) ?_
    refine ey_goto (cd_330 rfl) rfl ?_
    exact ey_rs (s0 := [jI 1, jR (some 76)]) (s1 := [jI (if (jw (m 76 12)) = 8 then 1 else 0), jR (some 76)]) (by rw [show ((if (jw (m 76 12)) = 8 then 1 else 0) : Int) = 1 from (if_pos q90)]) (K89 (jlf (jla 0 [jR (some 76)])) rfl)
  · refine ey_cne (cd_330 rfl) rfl rfl (show jw 8 = 8 from by decide) q90 ?_
    refine ey_iconst (cd_330 rfl) ?_
    exact ey_rs (s0 := [jI 0, jR (some 76)]) (s1 := [jI (if (jw (m 76 12)) = 8 then 1 else 0), jR (some 76)]) (by rw [show ((if (jw (m 76 12)) = 8 then 1 else 0) : Int) = 0 from (if_neg q90)]) (K89 (jlf (jla 0 [jR (some 76)])) rfl)
theorem cd_331 {pc : Nat} {i : Instr × Nat} (h : mm_lk mm_c331 pc = some i) : mm_cd 331 pc = some i := h
theorem mt_331 : mm_MT 331 = (12, 3, some .boolean, 2, 0, []) := rfl
set_option maxRecDepth 100000 in
theorem jk_331_b44 {L : Nat} {xs : Nat → Int32} {b : jH} (hb : 152 ≤ b.1) (h6 : b.1 ≤ 1000000) {y0 : Int} {m : jM} {o : (Int × jM)} (e : jd_331_b44 y0 m = some o) : ∀ lv : jL, ey (mm_xt L xs) 3 331 44 lv [jI y0] (jhm b m) (.inl (some (jcv (jI o.1)), jaH (jhm b o.2))) := by
  intro lv 
  unfold jd_331_b44 at e
  obtain ⟨u10, e11, e⟩ := jbind e
  cases e
  exact ey_retz (cd_331 rfl) mt_331 rfl (jbc_s e11)
set_option maxRecDepth 100000 in
theorem ok_331 {L : Nat} {xs : Nat → Int32} {b : jH} (hb : 152 ≤ b.1) (h6 : b.1 ≤ 1000000) {p0 : Int} {p1 : Int} {m : jM} {o : (Int × jM)} (e : jd_331 p0 p1 m = some o) : mm_Runs (mm_xt L xs) 4 331 ([jR (some 76), jI p0, jI p1].map jcv) (jaH (jhm b m)) (.inl (some (jcv (jI o.1)), jaH (jhm b o.2))) := by
  refine ey_run0 _ mt_331 (jsl_s rfl) ?_
  unfold jd_331 at e
  refine ey_aload_n (cd_331 rfl) rfl ?_
  refine ey_aload_n (cd_331 rfl) rfl ?_
  refine ey_iload_n (cd_331 rfl) rfl ?_
  refine ey_iload_n (cd_331 rfl) rfl ?_
  obtain ⟨v1, e2, e⟩ := jbind e
  refine ey_cv (s0 := [jI p1, jI p0, jR (some 76), jR (some 76)]) (s1 := [jR (some 76)]) (st' := [jI v1, jR (some 76)]) (cd_331 rfl) mt_331 mt_314 rfl rfl rfl (jhm_is hb) rfl (jsml_s rfl) rfl (ok_314 hb h6 e2) ?_
  have K14 : ∀ lv : jL, lv 0 = some (jR (some 76)) → lv 1 = some (jI p0) → lv 2 = some (jI p1) → ey (mm_xt L xs) 3 331 15 lv [jI (if (jw v1) = 0 then 1 else 0), jR (some 76)] (jhm b m) (.inl (some (jcv (jI o.1)), jaH (jhm b o.2))) := by
    intro lv g0 g1 g2
    obtain ⟨m3, e4, e⟩ := jbind e
    refine ey_putf_i (cd_331 rfl) mt_331 rfl rfl rfl (jhm_pi' (k := 0) hb e4) ?_
    refine ey_aload_n (cd_331 rfl) g0 ?_
    refine ey_getf_i (z := (m3 76 0)) (cd_331 rfl) mt_331 rfl rfl rfl (jhm_gi hb 0) ?_
    by_cases q5 : (jw (m3 76 0)) = 0
    · rw [if_pos q5] at e
      refine ey_yne (cd_331 rfl) rfl rfl (fun w => w q5) ?_
      refine ey_aload_n (cd_331 rfl) g0 ?_
      refine ey_getf_r (cd_331 rfl) mt_331 rfl rfl rfl (jhm_gr (q := 98) hb rfl) ?_
      refine ey_aload_n (cd_331 rfl) g0 ?_
      refine ey_iload_n (cd_331 rfl) g1 ?_
      refine ey_iload_n (cd_331 rfl) g2 ?_
      obtain ⟨v6, e7, e⟩ := jbind e
      refine ey_cv (s0 := [jI p1, jI p0, jR (some 76), jR (some 98)]) (s1 := [jR (some 98)]) (st' := [jI v6, jR (some 98)]) (cd_331 rfl) mt_331 mt_318 rfl rfl rfl (jhm_is hb) rfl (jsml_s rfl) rfl (mm_Runs.up (d := 1) (by decide) (ok_318 hb h6 e7)) ?_
      obtain ⟨v8, e9, e⟩ := jbind e
      refine ey_zald (cd_331 rfl) (jhm_az hb (by decide) rfl e9) ?_
      have K12 : ∀ lv : jL, ey (mm_xt L xs) 3 331 44 lv [jI (if (jw v8) = 0 then 0 else 1)] (jhm b m3) (.inl (some (jcv (jI o.1)), jaH (jhm b o.2))) := by
        intro lv 
        exact jk_331_b44 hb h6 e lv 
      by_cases q13 : (jw v8) = 0
      · refine ey_zeq (cd_331 rfl) rfl rfl q13 ?_
        refine ey_iconst (cd_331 rfl) ?_
        exact ey_rs (s0 := [jI 0]) (s1 := [jI (if (jw v8) = 0 then 0 else 1)]) (by rw [show ((if (jw v8) = 0 then 0 else 1) : Int) = 0 from (if_pos q13)]) (K12 lv )
      · refine ey_yeq (cd_331 rfl) rfl rfl q13 ?_
        refine ey_iconst (cd_331 rfl) ?_
        refine ey_goto (cd_331 rfl) rfl ?_
        exact ey_rs (s0 := [jI 1]) (s1 := [jI (if (jw v8) = 0 then 0 else 1)]) (by rw [show ((if (jw v8) = 0 then 0 else 1) : Int) = 1 from (if_neg q13)]) (K12 lv )
    · rw [if_neg q5] at e
      refine ey_zne (cd_331 rfl) rfl rfl q5 ?_
      refine ey_iconst (cd_331 rfl) ?_
      exact jk_331_b44 hb h6 e lv 
  by_cases q15 : (jw v1) = 0
  · refine ey_zeq (cd_331 rfl) rfl rfl q15 ?_
    refine ey_iconst (cd_331 rfl) ?_
    exact ey_rs (s0 := [jI 1, jR (some 76)]) (s1 := [jI (if (jw v1) = 0 then 1 else 0), jR (some 76)]) (by rw [show ((if (jw v1) = 0 then 1 else 0) : Int) = 1 from (if_pos q15)]) (K14 (jlf (jla 0 [jR (some 76), jI p0, jI p1])) rfl rfl rfl)
  · refine ey_yeq (cd_331 rfl) rfl rfl q15 ?_
    refine ey_iconst (cd_331 rfl) ?_
    refine ey_goto (cd_331 rfl) rfl ?_
    exact ey_rs (s0 := [jI 0, jR (some 76)]) (s1 := [jI (if (jw v1) = 0 then 1 else 0), jR (some 76)]) (by rw [show ((if (jw v1) = 0 then 1 else 0) : Int) = 0 from (if_neg q15)]) (K14 (jlf (jla 0 [jR (some 76), jI p0, jI p1])) rfl rfl rfl)
theorem cd_332 {pc : Nat} {i : Instr × Nat} (h : mm_lk mm_c332 pc = some i) : mm_cd 332 pc = some i := h
theorem mt_332 : mm_MT 332 = (12, 3, some .int, 0, 0, []) := rfl
set_option maxRecDepth 100000 in
theorem jk_332_s22 {L : Nat} {xs : Nat → Int32} {b : jH} (hb : 152 ≤ b.1) (h6 : b.1 ≤ 1000000) {x1 : Int} {x2 : Int} {m : jM} {o : ((Int × jM) ⊕ jM)} {r : mm_R} (e : jd_332_s22 x1 x2 m = some o) (K : jsm (fun s => (∀ lv : jL, lv 0 = some (jR (some 76)) → lv 1 = some (jI x1) → lv 2 = some (jI s.1) → ey (mm_xt L xs) 0 332 22 lv [] (jhm b s.2) r)) (fun x => (∀ lv : jL, lv 1 = some (jI x1) → ey (mm_xt L xs) 0 332 40 lv [] (jhm b x) r)) o) : ∀ lv : jL, lv 0 = some (jR (some 76)) → lv 1 = some (jI x1) → lv 2 = some (jI x2) → ey (mm_xt L xs) 0 332 22 lv [] (jhm b m) r := by
  intro lv f0 f1 f2
  unfold jd_332_s22 at e
  refine ey_iload_n (cd_332 rfl) f2 ?_
  refine ey_iconst (cd_332 rfl) ?_
  by_cases q7 : 4 ≤ (jw x2)
  · rw [if_pos q7] at e
    refine ey_cge (cd_332 rfl) rfl rfl (show jw 4 = 4 from by decide) q7 ?_
    cases e
    exact K lv f1
  · rw [if_neg q7] at e
    refine ey_nge (cd_332 rfl) rfl rfl (show jw 4 = 4 from by decide) q7 ?_
    refine ey_aload_n (cd_332 rfl) f0 ?_
    refine ey_getf_r (cd_332 rfl) mt_332 rfl rfl rfl (jhm_gr (q := 141) hb rfl) ?_
    refine ey_iload_n (cd_332 rfl) f2 ?_
    refine ey_iconst (cd_332 rfl) ?_
    obtain ⟨m8, e9, e⟩ := jbind e
    refine ey_iast (cd_332 rfl) (jhm_ta hb (by decide) rfl e9) ?_
    refine ey_iinc (cd_332 rfl) mt_332 rfl f2 ?_
    refine ey_goto (cd_332 rfl) rfl ?_
    cases e
    exact K (jup lv 2 (jI (x2 + 1))) f0 (jup_pi (lv := lv) (j := 1) (v := jI (x2 + 1)) (z := x1) f1) rfl
theorem jk_332_l22 {L : Nat} {xs : Nat → Int32} {b : jH} (hb : 152 ≤ b.1) (h6 : b.1 ≤ 1000000) {x1 : Int} {x2 : Int} {m : jM} {x : jM} {r : mm_R} (e : jd_332_l22 x1 x2 m = some x) (K : (∀ lv : jL, lv 1 = some (jI x1) → ey (mm_xt L xs) 0 332 40 lv [] (jhm b x) r)) : ∀ lv : jL, lv 0 = some (jR (some 76)) → lv 1 = some (jI x1) → lv 2 = some (jI x2) → ey (mm_xt L xs) 0 332 22 lv [] (jhm b m) r := by
  unfold jd_332_l22 at e
  exact jlp_ok2 (P := fun s => ∀ lv : jL, lv 0 = some (jR (some 76)) → lv 1 = some (jI x1) → lv 2 = some (jI s.1) → ey (mm_xt L xs) 0 332 22 lv [] (jhm b s.2) r) (Q := fun x => (∀ lv : jL, lv 1 = some (jI x1) → ey (mm_xt L xs) 0 332 40 lv [] (jhm b x) r)) (fun s q hq hk => jk_332_s22 hb h6 hq hk) jfu _ x e K
set_option maxRecDepth 100000 in
theorem ok_332 {L : Nat} {xs : Nat → Int32} {b : jH} (hb : 152 ≤ b.1) (h6 : b.1 ≤ 1000000)  {m : jM} {o : (Int × jM)} (e : jd_332  m = some o) : mm_Runs (mm_xt L xs) 1 332 ([jR (some 76)].map jcv) (jaH (jhm b m)) (.inl (some (jcv (jI o.1)), jaH (jhm b o.2))) := by
  refine ey_run0 _ mt_332 (jsl_s rfl) ?_
  unfold jd_332 at e
  refine ey_aload_n (cd_332 rfl) rfl ?_
  refine ey_iconst (cd_332 rfl) ?_
  obtain ⟨m1, e2, e⟩ := jbind e
  refine ey_putf_i (cd_332 rfl) mt_332 rfl rfl rfl (jhm_pi' (k := 0) hb e2) ?_
  refine ey_aload_n (cd_332 rfl) rfl ?_
  refine ey_getf_i (z := (m1 76 12)) (cd_332 rfl) mt_332 rfl rfl rfl (jhm_gi hb 12) ?_
  refine ey_istore_n (cd_332 rfl) mt_332 rfl ?_
  refine ey_aload_n (cd_332 rfl) (jup_pr (lv := (jlf (jla 0 [jR (some 76)]))) (j := 0) (v := jI (m1 76 12)) (z := (some 76)) rfl) ?_
  refine ey_iconst (cd_332 rfl) ?_
  obtain ⟨m3, e4, e⟩ := jbind e
  refine ey_putf_i (cd_332 rfl) mt_332 rfl rfl rfl (jhm_pi' (k := 12) hb e4) ?_
  refine ey_aload_n (cd_332 rfl) (jup_pr (lv := (jlf (jla 0 [jR (some 76)]))) (j := 0) (v := jI (m1 76 12)) (z := (some 76)) rfl) ?_
  refine ey_iconst (cd_332 rfl) ?_
  obtain ⟨m5, e6, e⟩ := jbind e
  refine ey_putf_i (cd_332 rfl) mt_332 rfl rfl rfl (jhm_pi' (k := 86) hb e6) ?_
  refine ey_iconst (cd_332 rfl) ?_
  refine ey_istore_n (cd_332 rfl) mt_332 rfl ?_
  obtain ⟨x10, e11, e⟩ := jbind e
  refine jk_332_l22 hb h6 e11 ?_ (jup (jup (jlf (jla 0 [jR (some 76)])) 1 (jI (m1 76 12))) 2 (jI 0)) (jup_o rfl (jup_pr (lv := (jlf (jla 0 [jR (some 76)]))) (j := 0) (v := jI (m1 76 12)) (z := (some 76)) rfl)) (jup_pi (lv := (jup (jlf (jla 0 [jR (some 76)])) 1 (jI (m1 76 12)))) (j := 1) (v := jI 0) (z := (m1 76 12)) rfl) rfl
  intro lv g1
  refine ey_iload_n (cd_332 rfl) g1 ?_
  cases e
  exact ey_reti (cd_332 rfl) mt_332 rfl
theorem cd_333 {pc : Nat} {i : Instr × Nat} (h : mm_lk mm_c333 pc = some i) : mm_cd 333 pc = some i := h
theorem mt_333 : mm_MT 333 = (12, 1, some .int, 0, 0, []) := rfl
set_option maxRecDepth 100000 in
theorem jk_333_s0 {L : Nat} {xs : Nat → Int32} {b : jH} (hb : 152 ≤ b.1) (h6 : b.1 ≤ 1000000)  {m : jM} {o : (jM ⊕ jM)} {r : mm_R} (e : jd_333_s0  m = some o) (K : jsm (fun s => (∀ lv : jL, lv 0 = some (jR (some 76)) → ey (mm_xt L xs) 0 333 0 lv [] (jhm b s) r)) (fun x => (∀ lv : jL, lv 0 = some (jR (some 76)) → ey (mm_xt L xs) 0 333 48 lv [] (jhm b x) r)) o) : ∀ lv : jL, lv 0 = some (jR (some 76)) → ey (mm_xt L xs) 0 333 0 lv [] (jhm b m) r := by
  intro lv f0
  unfold jd_333_s0 at e
  refine ey_aload_n (cd_333 rfl) f0 ?_
  refine ey_getf_i (z := (m 76 96)) (cd_333 rfl) mt_333 rfl rfl rfl (jhm_gi hb 96) ?_
  refine ey_aload_n (cd_333 rfl) f0 ?_
  refine ey_getf_i (z := (m 76 5)) (cd_333 rfl) mt_333 rfl rfl rfl (jhm_gi hb 5) ?_
  by_cases q1 : (jw (m 76 5)) ≤ (jw (m 76 96))
  · rw [if_pos q1] at e
    refine ey_cge (cd_333 rfl) rfl rfl rfl q1 ?_
    cases e
    exact K lv f0
  · rw [if_neg q1] at e
    refine ey_nge (cd_333 rfl) rfl rfl rfl q1 ?_
    refine ey_aload_n (cd_333 rfl) f0 ?_
    refine ey_getf_i (z := (m 76 96)) (cd_333 rfl) mt_333 rfl rfl rfl (jhm_gi hb 96) ?_
    refine ey_sipush (cd_333 rfl) (by decide) ?_
    by_cases q2 : 200 ≤ (jw (m 76 96))
    · rw [if_pos q2] at e
      refine ey_cge (cd_333 rfl) rfl rfl (show jw 200 = 200 from by decide) q2 ?_
      cases e
      exact K lv f0
    · rw [if_neg q2] at e
      refine ey_nge (cd_333 rfl) rfl rfl (show jw 200 = 200 from by decide) q2 ?_
      refine ey_aload_n (cd_333 rfl) f0 ?_
      refine ey_getf_r (cd_333 rfl) mt_333 rfl rfl rfl (jhm_gr (q := 80) hb rfl) ?_
      refine ey_aload_n (cd_333 rfl) f0 ?_
      refine ey_getf_i (z := (m 76 96)) (cd_333 rfl) mt_333 rfl rfl rfl (jhm_gi hb 96) ?_
      obtain ⟨v3, e4, e⟩ := jbind e
      refine ey_iald (cd_333 rfl) (jhm_ai hb h6 (by decide) rfl e4) ?_
      refine ey_bipush (cd_333 rfl) (by decide) ?_
      by_cases q5 : (jw v3) = 32
      · rw [if_pos q5] at e
        refine ey_nne (cd_333 rfl) rfl rfl (show jw 32 = 32 from by decide) (fun w => w q5) ?_
        refine ey_aload_n (cd_333 rfl) f0 ?_
        refine ey_dup (cd_333 rfl) rfl ?_
        refine ey_getf_i (z := (m 76 96)) (cd_333 rfl) mt_333 rfl rfl rfl (jhm_gi hb 96) ?_
        refine ey_iconst (cd_333 rfl) ?_
        refine ey_iadd (cd_333 rfl) ?_
        obtain ⟨m6, e7, e⟩ := jbind e
        refine ey_putf_i (cd_333 rfl) mt_333 rfl rfl rfl (jhm_pi' (k := 96) hb e7) ?_
        refine ey_goto (cd_333 rfl) rfl ?_
        cases e
        exact K lv f0
      · rw [if_neg q5] at e
        refine ey_cne (cd_333 rfl) rfl rfl (show jw 32 = 32 from by decide) q5 ?_
        cases e
        exact K lv f0
theorem jk_333_l0 {L : Nat} {xs : Nat → Int32} {b : jH} (hb : 152 ≤ b.1) (h6 : b.1 ≤ 1000000)  {m : jM} {x : jM} {r : mm_R} (e : jd_333_l0  m = some x) (K : (∀ lv : jL, lv 0 = some (jR (some 76)) → ey (mm_xt L xs) 0 333 48 lv [] (jhm b x) r)) : ∀ lv : jL, lv 0 = some (jR (some 76)) → ey (mm_xt L xs) 0 333 0 lv [] (jhm b m) r := by
  unfold jd_333_l0 at e
  exact jlp_ok2 (P := fun s => ∀ lv : jL, lv 0 = some (jR (some 76)) → ey (mm_xt L xs) 0 333 0 lv [] (jhm b s) r) (Q := fun x => (∀ lv : jL, lv 0 = some (jR (some 76)) → ey (mm_xt L xs) 0 333 48 lv [] (jhm b x) r)) (fun s q hq hk => jk_333_s0 hb h6 hq hk) jfu _ x e K
set_option maxRecDepth 100000 in
theorem jk_333_b82 {L : Nat} {xs : Nat → Int32} {b : jH} (hb : 152 ≤ b.1) (h6 : b.1 ≤ 1000000) {y0 : Int} {m : jM} {o : (Int × jM)} (e : jd_333_b82 y0 m = some o) : ∀ lv : jL, ey (mm_xt L xs) 0 333 82 lv [jI y0] (jhm b m) (.inl (some (jcv (jI o.1)), jaH (jhm b o.2))) := by
  intro lv 
  unfold jd_333_b82 at e
  cases e
  exact ey_reti (cd_333 rfl) mt_333 rfl
set_option maxRecDepth 100000 in
theorem jk_333_b81 {L : Nat} {xs : Nat → Int32} {b : jH} (hb : 152 ≤ b.1) (h6 : b.1 ≤ 1000000)  {m : jM} {o : (Int × jM)} (e : jd_333_b81  m = some o) : ∀ lv : jL, ey (mm_xt L xs) 0 333 81 lv [] (jhm b m) (.inl (some (jcv (jI o.1)), jaH (jhm b o.2))) := by
  intro lv 
  unfold jd_333_b81 at e
  refine ey_iconst (cd_333 rfl) ?_
  exact jk_333_b82 hb h6 e lv 
set_option maxRecDepth 100000 in
theorem ok_333 {L : Nat} {xs : Nat → Int32} {b : jH} (hb : 152 ≤ b.1) (h6 : b.1 ≤ 1000000)  {m : jM} {o : (Int × jM)} (e : jd_333  m = some o) : mm_Runs (mm_xt L xs) 1 333 ([jR (some 76)].map jcv) (jaH (jhm b m)) (.inl (some (jcv (jI o.1)), jaH (jhm b o.2))) := by
  refine ey_run0 _ mt_333 (jsl_s rfl) ?_
  unfold jd_333 at e
  obtain ⟨x8, e9, e⟩ := jbind e
  refine jk_333_l0 hb h6 e9 ?_ (jlf (jla 0 [jR (some 76)])) rfl
  intro lv g0
  refine ey_aload_n (cd_333 rfl) g0 ?_
  refine ey_getf_i (z := (x8 76 96)) (cd_333 rfl) mt_333 rfl rfl rfl (jhm_gi hb 96) ?_
  refine ey_aload_n (cd_333 rfl) g0 ?_
  refine ey_getf_i (z := (x8 76 5)) (cd_333 rfl) mt_333 rfl rfl rfl (jhm_gi hb 5) ?_
  by_cases q10 : (jw (x8 76 5)) ≤ (jw (x8 76 96))
  · rw [if_pos q10] at e
    refine ey_cge (cd_333 rfl) rfl rfl rfl q10 ?_
    exact jk_333_b81 hb h6 e lv 
  · rw [if_neg q10] at e
    refine ey_nge (cd_333 rfl) rfl rfl rfl q10 ?_
    refine ey_aload_n (cd_333 rfl) g0 ?_
    refine ey_getf_i (z := (x8 76 96)) (cd_333 rfl) mt_333 rfl rfl rfl (jhm_gi hb 96) ?_
    refine ey_sipush (cd_333 rfl) (by decide) ?_
    by_cases q11 : 200 ≤ (jw (x8 76 96))
    · rw [if_pos q11] at e
      refine ey_cge (cd_333 rfl) rfl rfl (show jw 200 = 200 from by decide) q11 ?_
      exact jk_333_b81 hb h6 e lv 
    · rw [if_neg q11] at e
      refine ey_nge (cd_333 rfl) rfl rfl (show jw 200 = 200 from by decide) q11 ?_
      refine ey_aload_n (cd_333 rfl) g0 ?_
      refine ey_getf_r (cd_333 rfl) mt_333 rfl rfl rfl (jhm_gr (q := 80) hb rfl) ?_
      refine ey_aload_n (cd_333 rfl) g0 ?_
      refine ey_getf_i (z := (x8 76 96)) (cd_333 rfl) mt_333 rfl rfl rfl (jhm_gi hb 96) ?_
      obtain ⟨v12, e13, e⟩ := jbind e
      refine ey_iald (cd_333 rfl) (jhm_ai hb h6 (by decide) rfl e13) ?_
      refine ey_goto (cd_333 rfl) rfl ?_
      exact jk_333_b82 hb h6 e lv 
theorem cd_334 {pc : Nat} {i : Instr × Nat} (h : mm_lk mm_c334 pc = some i) : mm_cd 334 pc = some i := h
theorem mt_334 : mm_MT 334 = (12, 1, none, 0, 0, []) := rfl
set_option maxRecDepth 100000 in
theorem jk_334_b16 {L : Nat} {xs : Nat → Int32} {b : jH} (hb : 152 ≤ b.1) (h6 : b.1 ≤ 1000000)  {m : jM} {o : jM} (e : jd_334_b16  m = some o) : ∀ lv : jL, ey (mm_xt L xs) 0 334 16 lv [] (jhm b m) (.inl (none, jaH (jhm b o))) := by
  intro lv 
  unfold jd_334_b16 at e
  cases e
  exact ey_retv (cd_334 rfl) mt_334 rfl
set_option maxRecDepth 100000 in
theorem ok_334 {L : Nat} {xs : Nat → Int32} {b : jH} (hb : 152 ≤ b.1) (h6 : b.1 ≤ 1000000)  {m : jM} {o : jM} (e : jd_334  m = some o) : mm_Runs (mm_xt L xs) 1 334 ([jR (some 76)].map jcv) (jaH (jhm b m)) (.inl (none, jaH (jhm b o))) := by
  refine ey_run0 _ mt_334 (jsl_s rfl) ?_
  unfold jd_334 at e
  refine ey_aload_n (cd_334 rfl) rfl ?_
  refine ey_getf_i (z := (m 76 97)) (cd_334 rfl) mt_334 rfl rfl rfl (jhm_gi hb 97) ?_
  refine ey_iconst (cd_334 rfl) ?_
  by_cases q1 : (jw (m 76 97)) = (-1)
  · rw [if_pos q1] at e
    refine ey_nne (cd_334 rfl) rfl rfl (show jw (-1) = (-1) from by decide) (fun w => w q1) ?_
    refine ey_aload_n (cd_334 rfl) rfl ?_
    refine ey_aload_n (cd_334 rfl) rfl ?_
    refine ey_getf_i (z := (m 76 96)) (cd_334 rfl) mt_334 rfl rfl rfl (jhm_gi hb 96) ?_
    obtain ⟨m2, e3, e⟩ := jbind e
    refine ey_putf_i (cd_334 rfl) mt_334 rfl rfl rfl (jhm_pi' (k := 97) hb e3) ?_
    exact jk_334_b16 hb h6 e (jlf (jla 0 [jR (some 76)])) 
  · rw [if_neg q1] at e
    refine ey_cne (cd_334 rfl) rfl rfl (show jw (-1) = (-1) from by decide) q1 ?_
    exact jk_334_b16 hb h6 e (jlf (jla 0 [jR (some 76)])) 
theorem cd_335 {pc : Nat} {i : Instr × Nat} (h : mm_lk mm_c335 pc = some i) : mm_cd 335 pc = some i := h
theorem mt_335 : mm_MT 335 = (12, 3, none, 2, 0, []) := rfl
set_option maxRecDepth 100000 in
theorem ok_335 {L : Nat} {xs : Nat → Int32} {b : jH} (hb : 152 ≤ b.1) (h6 : b.1 ≤ 1000000) {p0 : Int} {p1 : Int} {m : jM} {o : jM} (e : jd_335 p0 p1 m = some o) : mm_Runs (mm_xt L xs) 1 335 ([jR (some 76), jI p0, jI p1].map jcv) (jaH (jhm b m)) (.inl (none, jaH (jhm b o))) := by
  refine ey_run0 _ mt_335 (jsl_s rfl) ?_
  unfold jd_335 at e
  refine ey_aload_n (cd_335 rfl) rfl ?_
  refine ey_getf_r (cd_335 rfl) mt_335 rfl rfl rfl (jhm_gr (q := 136) hb rfl) ?_
  refine ey_sipush (cd_335 rfl) (by decide) ?_
  refine ey_aload_n (cd_335 rfl) rfl ?_
  refine ey_getf_i (z := (m 76 92)) (cd_335 rfl) mt_335 rfl rfl rfl (jhm_gi hb 92) ?_
  refine ey_imul (cd_335 rfl) ?_
  refine ey_aload_n (cd_335 rfl) rfl ?_
  refine ey_getf_i (z := (m 76 102)) (cd_335 rfl) mt_335 rfl rfl rfl (jhm_gi hb 102) ?_
  refine ey_iadd (cd_335 rfl) ?_
  refine ey_iload_n (cd_335 rfl) rfl ?_
  obtain ⟨m1, e2, e⟩ := jbind e
  refine ey_iast (cd_335 rfl) (jhm_ta hb (by decide) rfl e2) ?_
  refine ey_aload_n (cd_335 rfl) rfl ?_
  refine ey_getf_r (cd_335 rfl) mt_335 rfl rfl rfl (jhm_gr (q := 137) hb rfl) ?_
  refine ey_sipush (cd_335 rfl) (by decide) ?_
  refine ey_aload_n (cd_335 rfl) rfl ?_
  refine ey_getf_i (z := (m1 76 92)) (cd_335 rfl) mt_335 rfl rfl rfl (jhm_gi hb 92) ?_
  refine ey_imul (cd_335 rfl) ?_
  refine ey_aload_n (cd_335 rfl) rfl ?_
  refine ey_getf_i (z := (m1 76 102)) (cd_335 rfl) mt_335 rfl rfl rfl (jhm_gi hb 102) ?_
  refine ey_iadd (cd_335 rfl) ?_
  refine ey_iload_n (cd_335 rfl) rfl ?_
  obtain ⟨m3, e4, e⟩ := jbind e
  refine ey_iast (cd_335 rfl) (jhm_ta hb (by decide) rfl e4) ?_
  refine ey_aload_n (cd_335 rfl) rfl ?_
  refine ey_dup (cd_335 rfl) rfl ?_
  refine ey_getf_i (z := (m3 76 102)) (cd_335 rfl) mt_335 rfl rfl rfl (jhm_gi hb 102) ?_
  refine ey_iconst (cd_335 rfl) ?_
  refine ey_iadd (cd_335 rfl) ?_
  obtain ⟨m5, e6, e⟩ := jbind e
  refine ey_putf_i (cd_335 rfl) mt_335 rfl rfl rfl (jhm_pi' (k := 102) hb e6) ?_
  cases e
  exact ey_retv (cd_335 rfl) mt_335 rfl
theorem cd_336 {pc : Nat} {i : Instr × Nat} (h : mm_lk mm_c336 pc = some i) : mm_cd 336 pc = some i := h
theorem mt_336 : mm_MT 336 = (12, 1, some .int, 1, 1, []) := rfl
set_option maxRecDepth 100000 in
theorem ok_336 {L : Nat} {xs : Nat → Int32} {p0 : Int} {h : jH} : mm_Runs (mm_xt L xs) 1 336 ([jI p0].map jcv) (jaH h) (.inl (some (jcv (jI (jd_336 p0))), jaH h)) := by
  refine ey_run0 _ mt_336 (jsl_s rfl) ?_
  refine ey_iload_n (cd_336 rfl) rfl ?_
  refine ey_bipush (cd_336 rfl) (by decide) ?_
  by_cases q1 : (jw p0) = 8
  · refine ey_nne (cd_336 rfl) rfl rfl (show jw 8 = 8 from by decide) (fun w => w q1) ?_
    refine ey_iconst (cd_336 rfl) ?_
    refine ey_goto (cd_336 rfl) rfl ?_
    rw [show (jd_336 p0) = 3 from by unfold jd_336; exact (if_pos q1)]
    exact ey_reti (cd_336 rfl) mt_336 rfl
  · refine ey_cne (cd_336 rfl) rfl rfl (show jw 8 = 8 from by decide) q1 ?_
    refine ey_iload_n (cd_336 rfl) rfl ?_
    refine ey_bipush (cd_336 rfl) (by decide) ?_
    by_cases q2 : (jw p0) < 11
    · refine ey_clt (cd_336 rfl) rfl rfl (show jw 11 = 11 from by decide) q2 ?_
      refine ey_iload_n (cd_336 rfl) rfl ?_
      refine ey_bipush (cd_336 rfl) (by decide) ?_
      by_cases q3 : (jw p0) = 9
      · refine ey_ceq (cd_336 rfl) rfl rfl (show jw 9 = 9 from by decide) q3 ?_
        refine ey_iconst (cd_336 rfl) ?_
        refine ey_goto (cd_336 rfl) rfl ?_
        rw [show (jd_336 p0) = 1 from by unfold jd_336; exact ((if_neg q1).trans ((if_pos q2).trans (if_pos q3)))]
        exact ey_reti (cd_336 rfl) mt_336 rfl
      · refine ey_neq (cd_336 rfl) rfl rfl (show jw 9 = 9 from by decide) q3 ?_
        refine ey_iload_n (cd_336 rfl) rfl ?_
        refine ey_bipush (cd_336 rfl) (by decide) ?_
        by_cases q4 : (jw p0) = 10
        · refine ey_nne (cd_336 rfl) rfl rfl (show jw 10 = 10 from by decide) (fun w => w q4) ?_
          refine ey_iconst (cd_336 rfl) ?_
          refine ey_goto (cd_336 rfl) rfl ?_
          rw [show (jd_336 p0) = 1 from by unfold jd_336; exact ((if_neg q1).trans ((if_pos q2).trans ((if_neg q3).trans (if_pos q4))))]
          exact ey_reti (cd_336 rfl) mt_336 rfl
        · refine ey_cne (cd_336 rfl) rfl rfl (show jw 10 = 10 from by decide) q4 ?_
          refine ey_iconst (cd_336 rfl) ?_
          rw [show (jd_336 p0) = 0 from by unfold jd_336; exact ((if_neg q1).trans ((if_pos q2).trans ((if_neg q3).trans (if_neg q4))))]
          exact ey_reti (cd_336 rfl) mt_336 rfl
    · refine ey_nlt (cd_336 rfl) rfl rfl (show jw 11 = 11 from by decide) q2 ?_
      refine ey_iload_n (cd_336 rfl) rfl ?_
      refine ey_bipush (cd_336 rfl) (by decide) ?_
      by_cases q5 : 13 < (jw p0)
      · refine ey_cgt (cd_336 rfl) rfl rfl (show jw 13 = 13 from by decide) q5 ?_
        refine ey_iload_n (cd_336 rfl) rfl ?_
        refine ey_bipush (cd_336 rfl) (by decide) ?_
        by_cases q6 : (jw p0) = 9
        · refine ey_ceq (cd_336 rfl) rfl rfl (show jw 9 = 9 from by decide) q6 ?_
          refine ey_iconst (cd_336 rfl) ?_
          refine ey_goto (cd_336 rfl) rfl ?_
          rw [show (jd_336 p0) = 1 from by unfold jd_336; exact ((if_neg q1).trans ((if_neg q2).trans ((if_pos q5).trans (if_pos q6))))]
          exact ey_reti (cd_336 rfl) mt_336 rfl
        · refine ey_neq (cd_336 rfl) rfl rfl (show jw 9 = 9 from by decide) q6 ?_
          refine ey_iload_n (cd_336 rfl) rfl ?_
          refine ey_bipush (cd_336 rfl) (by decide) ?_
          by_cases q7 : (jw p0) = 10
          · refine ey_nne (cd_336 rfl) rfl rfl (show jw 10 = 10 from by decide) (fun w => w q7) ?_
            refine ey_iconst (cd_336 rfl) ?_
            refine ey_goto (cd_336 rfl) rfl ?_
            rw [show (jd_336 p0) = 1 from by unfold jd_336; exact ((if_neg q1).trans ((if_neg q2).trans ((if_pos q5).trans ((if_neg q6).trans (if_pos q7)))))]
            exact ey_reti (cd_336 rfl) mt_336 rfl
          · refine ey_cne (cd_336 rfl) rfl rfl (show jw 10 = 10 from by decide) q7 ?_
            refine ey_iconst (cd_336 rfl) ?_
            rw [show (jd_336 p0) = 0 from by unfold jd_336; exact ((if_neg q1).trans ((if_neg q2).trans ((if_pos q5).trans ((if_neg q6).trans (if_neg q7)))))]
            exact ey_reti (cd_336 rfl) mt_336 rfl
      · refine ey_ngt (cd_336 rfl) rfl rfl (show jw 13 = 13 from by decide) q5 ?_
        refine ey_iconst (cd_336 rfl) ?_
        refine ey_goto (cd_336 rfl) rfl ?_
        rw [show (jd_336 p0) = 2 from by unfold jd_336; exact ((if_neg q1).trans ((if_neg q2).trans (if_neg q5)))]
        exact ey_reti (cd_336 rfl) mt_336 rfl
theorem cd_337 {pc : Nat} {i : Instr × Nat} (h : mm_lk mm_c337 pc = some i) : mm_cd 337 pc = some i := h
theorem mt_337 : mm_MT 337 = (12, 2, none, 1, 0, []) := rfl
set_option maxRecDepth 100000 in
theorem jk_337_s0 {L : Nat} {xs : Nat → Int32} {b : jH} (hb : 152 ≤ b.1) (h6 : b.1 ≤ 1000000) {x1 : Int} {m : jM} {o : (jM ⊕ jM)} {r : mm_R} (e : jd_337_s0 x1 m = some o) (K : jsm (fun s => (∀ lv : jL, lv 0 = some (jR (some 76)) → lv 1 = some (jI x1) → ey (mm_xt L xs) 1 337 0 lv [] (jhm b s) r)) (fun x => (∀ lv : jL, ey (mm_xt L xs) 1 337 80 lv [] (jhm b x) r)) o) : ∀ lv : jL, lv 0 = some (jR (some 76)) → lv 1 = some (jI x1) → ey (mm_xt L xs) 1 337 0 lv [] (jhm b m) r := by
  intro lv f0 f1
  unfold jd_337_s0 at e
  refine ey_aload_n (cd_337 rfl) f0 ?_
  refine ey_getf_i (z := (m 76 98)) (cd_337 rfl) mt_337 rfl rfl rfl (jhm_gi hb 98) ?_
  by_cases q1 : (jw (m 76 98)) ≤ 0
  · rw [if_pos q1] at e
    refine ey_zle (cd_337 rfl) rfl rfl q1 ?_
    cases e
    exact K lv 
  · rw [if_neg q1] at e
    refine ey_yle (cd_337 rfl) rfl rfl q1 ?_
    refine ey_aload_n (cd_337 rfl) f0 ?_
    refine ey_getf_r (cd_337 rfl) mt_337 rfl rfl rfl (jhm_gr (q := 138) hb rfl) ?_
    refine ey_aload_n (cd_337 rfl) f0 ?_
    refine ey_getf_i (z := (m 76 98)) (cd_337 rfl) mt_337 rfl rfl rfl (jhm_gi hb 98) ?_
    refine ey_iconst (cd_337 rfl) ?_
    refine ey_isub (cd_337 rfl) ?_
    obtain ⟨v2, e3, e⟩ := jbind e
    refine ey_iald (cd_337 rfl) (jhm_ai hb h6 (by decide) rfl e3) ?_
    refine ey_cs (s0 := [jI v2]) (s1 := []) (st' := [jI (jd_336 v2)]) (cd_337 rfl) mt_337 mt_336 rfl (by decide) rfl rfl (jsml_s rfl) rfl (ok_336 ) ?_
    refine ey_iload_n (cd_337 rfl) f1 ?_
    by_cases q4 : (jw (jd_336 v2)) < (jw x1)
    · rw [if_pos q4] at e
      refine ey_clt (cd_337 rfl) rfl rfl rfl q4 ?_
      cases e
      exact K lv 
    · rw [if_neg q4] at e
      refine ey_nlt (cd_337 rfl) rfl rfl rfl q4 ?_
      refine ey_aload_n (cd_337 rfl) f0 ?_
      refine ey_dup (cd_337 rfl) rfl ?_
      refine ey_getf_i (z := (m 76 98)) (cd_337 rfl) mt_337 rfl rfl rfl (jhm_gi hb 98) ?_
      refine ey_iconst (cd_337 rfl) ?_
      refine ey_isub (cd_337 rfl) ?_
      obtain ⟨m5, e6, e⟩ := jbind e
      refine ey_putf_i (cd_337 rfl) mt_337 rfl rfl rfl (jhm_pi' (k := 98) hb e6) ?_
      refine ey_aload_n (cd_337 rfl) f0 ?_
      refine ey_dup (cd_337 rfl) rfl ?_
      refine ey_getf_i (z := (m5 76 101)) (cd_337 rfl) mt_337 rfl rfl rfl (jhm_gi hb 101) ?_
      refine ey_aload_n (cd_337 rfl) f0 ?_
      refine ey_getf_r (cd_337 rfl) mt_337 rfl rfl rfl (jhm_gr (q := 138) hb rfl) ?_
      refine ey_aload_n (cd_337 rfl) f0 ?_
      refine ey_getf_i (z := (m5 76 98)) (cd_337 rfl) mt_337 rfl rfl rfl (jhm_gi hb 98) ?_
      obtain ⟨v7, e8, e⟩ := jbind e
      refine ey_iald (cd_337 rfl) (jhm_ai hb h6 (by decide) rfl e8) ?_
      refine ey_bipush (cd_337 rfl) (by decide) ?_
      have K15 : ∀ lv : jL, lv 0 = some (jR (some 76)) → lv 1 = some (jI x1) → ey (mm_xt L xs) 1 337 59 lv [jI (if (jw v7) = 8 then 1 else 0), jI (m5 76 101), jR (some 76)] (jhm b m5) r := by
        intro lv g0 g1
        refine ey_isub (cd_337 rfl) ?_
        obtain ⟨m9, e10, e⟩ := jbind e
        refine ey_putf_i (cd_337 rfl) mt_337 rfl rfl rfl (jhm_pi' (k := 101) hb e10) ?_
        refine ey_aload_n (cd_337 rfl) g0 ?_
        refine ey_aload_n (cd_337 rfl) g0 ?_
        refine ey_getf_r (cd_337 rfl) mt_337 rfl rfl rfl (jhm_gr (q := 138) hb rfl) ?_
        refine ey_aload_n (cd_337 rfl) g0 ?_
        refine ey_getf_i (z := (m9 76 98)) (cd_337 rfl) mt_337 rfl rfl rfl (jhm_gi hb 98) ?_
        obtain ⟨v11, e12, e⟩ := jbind e
        refine ey_iald (cd_337 rfl) (jhm_ai hb h6 (by decide) rfl e12) ?_
        refine ey_iconst (cd_337 rfl) ?_
        obtain ⟨m13, e14, e⟩ := jbind e
        refine ey_cv (s0 := [jI 0, jI v11, jR (some 76)]) (s1 := []) (st' := []) (cd_337 rfl) mt_337 mt_335 rfl rfl rfl (jhm_is hb) rfl (jsml_s rfl) rfl (ok_335 hb h6 e14) ?_
        refine ey_goto (cd_337 rfl) rfl ?_
        cases e
        exact K lv g0 g1
      by_cases q16 : (jw v7) = 8
      · refine ey_nne (cd_337 rfl) rfl rfl (show jw 8 = 8 from by decide) (fun w => w q16) ?_
        refine ey_iconst (cd_337 rfl) ?_
        refine ey_goto (cd_337 rfl) rfl ?_
        exact ey_rs (s0 := [jI 1, jI (m5 76 101), jR (some 76)]) (s1 := [jI (if (jw v7) = 8 then 1 else 0), jI (m5 76 101), jR (some 76)]) (by rw [show ((if (jw v7) = 8 then 1 else 0) : Int) = 1 from (if_pos q16)]) (K15 lv f0 f1)
      · refine ey_cne (cd_337 rfl) rfl rfl (show jw 8 = 8 from by decide) q16 ?_
        refine ey_iconst (cd_337 rfl) ?_
        exact ey_rs (s0 := [jI 0, jI (m5 76 101), jR (some 76)]) (s1 := [jI (if (jw v7) = 8 then 1 else 0), jI (m5 76 101), jR (some 76)]) (by rw [show ((if (jw v7) = 8 then 1 else 0) : Int) = 0 from (if_neg q16)]) (K15 lv f0 f1)
theorem jk_337_l0 {L : Nat} {xs : Nat → Int32} {b : jH} (hb : 152 ≤ b.1) (h6 : b.1 ≤ 1000000) {x1 : Int} {m : jM} {x : jM} {r : mm_R} (e : jd_337_l0 x1 m = some x) (K : (∀ lv : jL, ey (mm_xt L xs) 1 337 80 lv [] (jhm b x) r)) : ∀ lv : jL, lv 0 = some (jR (some 76)) → lv 1 = some (jI x1) → ey (mm_xt L xs) 1 337 0 lv [] (jhm b m) r := by
  unfold jd_337_l0 at e
  exact jlp_ok2 (P := fun s => ∀ lv : jL, lv 0 = some (jR (some 76)) → lv 1 = some (jI x1) → ey (mm_xt L xs) 1 337 0 lv [] (jhm b s) r) (Q := fun x => (∀ lv : jL, ey (mm_xt L xs) 1 337 80 lv [] (jhm b x) r)) (fun s q hq hk => jk_337_s0 hb h6 hq hk) jfu _ x e K
set_option maxRecDepth 100000 in
theorem ok_337 {L : Nat} {xs : Nat → Int32} {b : jH} (hb : 152 ≤ b.1) (h6 : b.1 ≤ 1000000) {p0 : Int} {m : jM} {o : jM} (e : jd_337 p0 m = some o) : mm_Runs (mm_xt L xs) 2 337 ([jR (some 76), jI p0].map jcv) (jaH (jhm b m)) (.inl (none, jaH (jhm b o))) := by
  refine ey_run0 _ mt_337 (jsl_s rfl) ?_
  unfold jd_337 at e
  obtain ⟨x17, e18, e⟩ := jbind e
  refine jk_337_l0 hb h6 e18 ?_ (jlf (jla 0 [jR (some 76), jI p0])) rfl rfl
  intro lv 
  cases e
  exact ey_retv (cd_337 rfl) mt_337 rfl
theorem cd_338 {pc : Nat} {i : Instr × Nat} (h : mm_lk mm_c338 pc = some i) : mm_cd 338 pc = some i := h
theorem mt_338 : mm_MT 338 = (12, 3, none, 2, 0, []) := rfl
set_option maxRecDepth 100000 in
theorem ok_338 {L : Nat} {xs : Nat → Int32} {b : jH} (hb : 152 ≤ b.1) (h6 : b.1 ≤ 1000000) {p0 : Int} {p1 : Int} {m : jM} {o : jM} (e : jd_338 p0 p1 m = some o) : mm_Runs (mm_xt L xs) 1 338 ([jR (some 76), jI p0, jI p1].map jcv) (jaH (jhm b m)) (.inl (none, jaH (jhm b o))) := by
  refine ey_run0 _ mt_338 (jsl_s rfl) ?_
  unfold jd_338 at e
  refine ey_aload_n (cd_338 rfl) rfl ?_
  refine ey_getf_r (cd_338 rfl) mt_338 rfl rfl rfl (jhm_gr (q := 138) hb rfl) ?_
  refine ey_aload_n (cd_338 rfl) rfl ?_
  refine ey_getf_i (z := (m 76 98)) (cd_338 rfl) mt_338 rfl rfl rfl (jhm_gi hb 98) ?_
  refine ey_iload_n (cd_338 rfl) rfl ?_
  obtain ⟨m1, e2, e⟩ := jbind e
  refine ey_iast (cd_338 rfl) (jhm_ta hb (by decide) rfl e2) ?_
  refine ey_aload_n (cd_338 rfl) rfl ?_
  refine ey_getf_r (cd_338 rfl) mt_338 rfl rfl rfl (jhm_gr (q := 139) hb rfl) ?_
  refine ey_aload_n (cd_338 rfl) rfl ?_
  refine ey_getf_i (z := (m1 76 98)) (cd_338 rfl) mt_338 rfl rfl rfl (jhm_gi hb 98) ?_
  refine ey_iload_n (cd_338 rfl) rfl ?_
  obtain ⟨m3, e4, e⟩ := jbind e
  refine ey_iast (cd_338 rfl) (jhm_ta hb (by decide) rfl e4) ?_
  refine ey_aload_n (cd_338 rfl) rfl ?_
  refine ey_dup (cd_338 rfl) rfl ?_
  refine ey_getf_i (z := (m3 76 98)) (cd_338 rfl) mt_338 rfl rfl rfl (jhm_gi hb 98) ?_
  refine ey_iconst (cd_338 rfl) ?_
  refine ey_iadd (cd_338 rfl) ?_
  obtain ⟨m5, e6, e⟩ := jbind e
  refine ey_putf_i (cd_338 rfl) mt_338 rfl rfl rfl (jhm_pi' (k := 98) hb e6) ?_
  cases e
  exact ey_retv (cd_338 rfl) mt_338 rfl
theorem cd_339 {pc : Nat} {i : Instr × Nat} (h : mm_lk mm_c339 pc = some i) : mm_cd 339 pc = some i := h
theorem mt_339 : mm_MT 339 = (12, 1, some .boolean, 1, 1, []) := rfl
theorem bo_339 {p0 : Int} : jd_339 p0 = 0 ∨ jd_339 p0 = 1 := by
  unfold jd_339
  exact bo_204
set_option maxRecDepth 100000 in
theorem ok_339 {L : Nat} {xs : Nat → Int32} {p0 : Int} {h : jH} : mm_Runs (mm_xt L xs) 2 339 ([jI p0].map jcv) (jaH h) (.inl (some (jcv (jI (jd_339 p0))), jaH h)) := by
  refine ey_run0 _ mt_339 (jsl_s rfl) ?_
  refine ey_iload_n (cd_339 rfl) rfl ?_
  refine ey_i2l (cd_339 rfl) ?_
  refine ey_ldc2 (z := 48) (cd_339 rfl) mt_339 rfl (by decide) ?_
  refine ey_ldc2 (z := 57) (cd_339 rfl) mt_339 rfl (by decide) ?_
  refine ey_cs (s0 := [jJ 57, jJ 48, jJ (jw p0)]) (s1 := []) (st' := [jI (jd_204 (jw p0) 48 57)]) (cd_339 rfl) mt_339 mt_204 rfl (by decide) rfl rfl (jsml_s rfl) rfl (ok_204 ) ?_
  rw [show (jd_339 p0) = (jd_204 (jw p0) 48 57) from rfl]
  exact ey_retz (cd_339 rfl) mt_339 rfl bo_204
theorem cd_340 {pc : Nat} {i : Instr × Nat} (h : mm_lk mm_c340 pc = some i) : mm_cd 340 pc = some i := h
theorem mt_340 : mm_MT 340 = (12, 1, some .int, 1, 1, []) := rfl
set_option maxRecDepth 100000 in
theorem ok_340 {L : Nat} {xs : Nat → Int32} {p0 : Int} {h : jH} : mm_Runs (mm_xt L xs) 1 340 ([jI p0].map jcv) (jaH h) (.inl (some (jcv (jI (jd_340 p0))), jaH h)) := by
  refine ey_run0 _ mt_340 (jsl_s rfl) ?_
  refine ey_iload_n (cd_340 rfl) rfl ?_
  by_cases q1 : (jw p0) = 77
  · refine ey_tsw (cd_340 rfl) q1 (by decide) rfl rfl ?_
    refine ey_bipush (cd_340 rfl) (by decide) ?_
    rw [show (jd_340 p0) = 16 from by unfold jd_340; exact (if_pos q1)]
    exact ey_reti (cd_340 rfl) mt_340 rfl
  · by_cases q2 : (jw p0) = 78
    · refine ey_tsw (cd_340 rfl) q2 (by decide) rfl rfl ?_
      refine ey_iconst (cd_340 rfl) ?_
      rw [show (jd_340 p0) = (-1) from by unfold jd_340; exact ((if_neg q1).trans (if_pos q2))]
      exact ey_reti (cd_340 rfl) mt_340 rfl
    · by_cases q3 : (jw p0) = 79
      · refine ey_tsw (cd_340 rfl) q3 (by decide) rfl rfl ?_
        refine ey_iconst (cd_340 rfl) ?_
        rw [show (jd_340 p0) = (-1) from by unfold jd_340; exact ((if_neg q1).trans ((if_neg q2).trans (if_pos q3)))]
        exact ey_reti (cd_340 rfl) mt_340 rfl
      · by_cases q4 : (jw p0) = 80
        · refine ey_tsw (cd_340 rfl) q4 (by decide) rfl rfl ?_
          refine ey_iconst (cd_340 rfl) ?_
          rw [show (jd_340 p0) = (-1) from by unfold jd_340; exact ((if_neg q1).trans ((if_neg q2).trans ((if_neg q3).trans (if_pos q4))))]
          exact ey_reti (cd_340 rfl) mt_340 rfl
        · by_cases q5 : (jw p0) = 81
          · refine ey_tsw (cd_340 rfl) q5 (by decide) rfl rfl ?_
            refine ey_iconst (cd_340 rfl) ?_
            rw [show (jd_340 p0) = (-1) from by unfold jd_340; exact ((if_neg q1).trans ((if_neg q2).trans ((if_neg q3).trans ((if_neg q4).trans (if_pos q5)))))]
            exact ey_reti (cd_340 rfl) mt_340 rfl
          · by_cases q6 : (jw p0) = 82
            · refine ey_tsw (cd_340 rfl) q6 (by decide) rfl rfl ?_
              refine ey_iconst (cd_340 rfl) ?_
              rw [show (jd_340 p0) = (-1) from by unfold jd_340; exact ((if_neg q1).trans ((if_neg q2).trans ((if_neg q3).trans ((if_neg q4).trans ((if_neg q5).trans (if_pos q6))))))]
              exact ey_reti (cd_340 rfl) mt_340 rfl
            · by_cases q7 : (jw p0) = 83
              · refine ey_tsw (cd_340 rfl) q7 (by decide) rfl rfl ?_
                refine ey_iconst (cd_340 rfl) ?_
                rw [show (jd_340 p0) = (-1) from by unfold jd_340; exact ((if_neg q1).trans ((if_neg q2).trans ((if_neg q3).trans ((if_neg q4).trans ((if_neg q5).trans ((if_neg q6).trans (if_pos q7)))))))]
                exact ey_reti (cd_340 rfl) mt_340 rfl
              · by_cases q8 : (jw p0) = 84
                · refine ey_tsw (cd_340 rfl) q8 (by decide) rfl rfl ?_
                  refine ey_iconst (cd_340 rfl) ?_
                  rw [show (jd_340 p0) = (-1) from by unfold jd_340; exact ((if_neg q1).trans ((if_neg q2).trans ((if_neg q3).trans ((if_neg q4).trans ((if_neg q5).trans ((if_neg q6).trans ((if_neg q7).trans (if_pos q8))))))))]
                  exact ey_reti (cd_340 rfl) mt_340 rfl
                · by_cases q9 : (jw p0) = 85
                  · refine ey_tsw (cd_340 rfl) q9 (by decide) rfl rfl ?_
                    refine ey_iconst (cd_340 rfl) ?_
                    rw [show (jd_340 p0) = (-1) from by unfold jd_340; exact ((if_neg q1).trans ((if_neg q2).trans ((if_neg q3).trans ((if_neg q4).trans ((if_neg q5).trans ((if_neg q6).trans ((if_neg q7).trans ((if_neg q8).trans (if_pos q9)))))))))]
                    exact ey_reti (cd_340 rfl) mt_340 rfl
                  · by_cases q10 : (jw p0) = 86
                    · refine ey_tsw (cd_340 rfl) q10 (by decide) rfl rfl ?_
                      refine ey_iconst (cd_340 rfl) ?_
                      rw [show (jd_340 p0) = (-1) from by unfold jd_340; exact ((if_neg q1).trans ((if_neg q2).trans ((if_neg q3).trans ((if_neg q4).trans ((if_neg q5).trans ((if_neg q6).trans ((if_neg q7).trans ((if_neg q8).trans ((if_neg q9).trans (if_pos q10))))))))))]
                      exact ey_reti (cd_340 rfl) mt_340 rfl
                    · by_cases q11 : (jw p0) = 87
                      · refine ey_tsw (cd_340 rfl) q11 (by decide) rfl rfl ?_
                        refine ey_iconst (cd_340 rfl) ?_
                        rw [show (jd_340 p0) = (-1) from by unfold jd_340; exact ((if_neg q1).trans ((if_neg q2).trans ((if_neg q3).trans ((if_neg q4).trans ((if_neg q5).trans ((if_neg q6).trans ((if_neg q7).trans ((if_neg q8).trans ((if_neg q9).trans ((if_neg q10).trans (if_pos q11)))))))))))]
                        exact ey_reti (cd_340 rfl) mt_340 rfl
                      · by_cases q12 : (jw p0) = 88
                        · refine ey_tsw (cd_340 rfl) q12 (by decide) rfl rfl ?_
                          refine ey_iconst (cd_340 rfl) ?_
                          rw [show (jd_340 p0) = (-1) from by unfold jd_340; exact ((if_neg q1).trans ((if_neg q2).trans ((if_neg q3).trans ((if_neg q4).trans ((if_neg q5).trans ((if_neg q6).trans ((if_neg q7).trans ((if_neg q8).trans ((if_neg q9).trans ((if_neg q10).trans ((if_neg q11).trans (if_pos q12))))))))))))]
                          exact ey_reti (cd_340 rfl) mt_340 rfl
                        · by_cases q13 : (jw p0) = 89
                          · refine ey_tsw (cd_340 rfl) q13 (by decide) rfl rfl ?_
                            refine ey_iconst (cd_340 rfl) ?_
                            rw [show (jd_340 p0) = (-1) from by unfold jd_340; exact ((if_neg q1).trans ((if_neg q2).trans ((if_neg q3).trans ((if_neg q4).trans ((if_neg q5).trans ((if_neg q6).trans ((if_neg q7).trans ((if_neg q8).trans ((if_neg q9).trans ((if_neg q10).trans ((if_neg q11).trans ((if_neg q12).trans (if_pos q13)))))))))))))]
                            exact ey_reti (cd_340 rfl) mt_340 rfl
                          · by_cases q14 : (jw p0) = 90
                            · refine ey_tsw (cd_340 rfl) q14 (by decide) rfl rfl ?_
                              refine ey_iconst (cd_340 rfl) ?_
                              rw [show (jd_340 p0) = (-1) from by unfold jd_340; exact ((if_neg q1).trans ((if_neg q2).trans ((if_neg q3).trans ((if_neg q4).trans ((if_neg q5).trans ((if_neg q6).trans ((if_neg q7).trans ((if_neg q8).trans ((if_neg q9).trans ((if_neg q10).trans ((if_neg q11).trans ((if_neg q12).trans ((if_neg q13).trans (if_pos q14))))))))))))))]
                              exact ey_reti (cd_340 rfl) mt_340 rfl
                            · by_cases q15 : (jw p0) = 91
                              · refine ey_tsw (cd_340 rfl) q15 (by decide) rfl rfl ?_
                                refine ey_iconst (cd_340 rfl) ?_
                                rw [show (jd_340 p0) = (-1) from by unfold jd_340; exact ((if_neg q1).trans ((if_neg q2).trans ((if_neg q3).trans ((if_neg q4).trans ((if_neg q5).trans ((if_neg q6).trans ((if_neg q7).trans ((if_neg q8).trans ((if_neg q9).trans ((if_neg q10).trans ((if_neg q11).trans ((if_neg q12).trans ((if_neg q13).trans ((if_neg q14).trans (if_pos q15)))))))))))))))]
                                exact ey_reti (cd_340 rfl) mt_340 rfl
                              · by_cases q16 : (jw p0) = 92
                                · refine ey_tsw (cd_340 rfl) q16 (by decide) rfl rfl ?_
                                  refine ey_iconst (cd_340 rfl) ?_
                                  rw [show (jd_340 p0) = (-1) from by unfold jd_340; exact ((if_neg q1).trans ((if_neg q2).trans ((if_neg q3).trans ((if_neg q4).trans ((if_neg q5).trans ((if_neg q6).trans ((if_neg q7).trans ((if_neg q8).trans ((if_neg q9).trans ((if_neg q10).trans ((if_neg q11).trans ((if_neg q12).trans ((if_neg q13).trans ((if_neg q14).trans ((if_neg q15).trans (if_pos q16))))))))))))))))]
                                  exact ey_reti (cd_340 rfl) mt_340 rfl
                                · by_cases q17 : (jw p0) = 93
                                  · refine ey_tsw (cd_340 rfl) q17 (by decide) rfl rfl ?_
                                    refine ey_iconst (cd_340 rfl) ?_
                                    rw [show (jd_340 p0) = (-1) from by unfold jd_340; exact ((if_neg q1).trans ((if_neg q2).trans ((if_neg q3).trans ((if_neg q4).trans ((if_neg q5).trans ((if_neg q6).trans ((if_neg q7).trans ((if_neg q8).trans ((if_neg q9).trans ((if_neg q10).trans ((if_neg q11).trans ((if_neg q12).trans ((if_neg q13).trans ((if_neg q14).trans ((if_neg q15).trans ((if_neg q16).trans (if_pos q17)))))))))))))))))]
                                    exact ey_reti (cd_340 rfl) mt_340 rfl
                                  · by_cases q18 : (jw p0) = 94
                                    · refine ey_tsw (cd_340 rfl) q18 (by decide) rfl rfl ?_
                                      refine ey_iconst (cd_340 rfl) ?_
                                      rw [show (jd_340 p0) = (-1) from by unfold jd_340; exact ((if_neg q1).trans ((if_neg q2).trans ((if_neg q3).trans ((if_neg q4).trans ((if_neg q5).trans ((if_neg q6).trans ((if_neg q7).trans ((if_neg q8).trans ((if_neg q9).trans ((if_neg q10).trans ((if_neg q11).trans ((if_neg q12).trans ((if_neg q13).trans ((if_neg q14).trans ((if_neg q15).trans ((if_neg q16).trans ((if_neg q17).trans (if_pos q18))))))))))))))))))]
                                      exact ey_reti (cd_340 rfl) mt_340 rfl
                                    · by_cases q19 : (jw p0) = 95
                                      · refine ey_tsw (cd_340 rfl) q19 (by decide) rfl rfl ?_
                                        refine ey_iconst (cd_340 rfl) ?_
                                        rw [show (jd_340 p0) = (-1) from by unfold jd_340; exact ((if_neg q1).trans ((if_neg q2).trans ((if_neg q3).trans ((if_neg q4).trans ((if_neg q5).trans ((if_neg q6).trans ((if_neg q7).trans ((if_neg q8).trans ((if_neg q9).trans ((if_neg q10).trans ((if_neg q11).trans ((if_neg q12).trans ((if_neg q13).trans ((if_neg q14).trans ((if_neg q15).trans ((if_neg q16).trans ((if_neg q17).trans ((if_neg q18).trans (if_pos q19)))))))))))))))))))]
                                        exact ey_reti (cd_340 rfl) mt_340 rfl
                                      · by_cases q20 : (jw p0) = 96
                                        · refine ey_tsw (cd_340 rfl) q20 (by decide) rfl rfl ?_
                                          refine ey_iconst (cd_340 rfl) ?_
                                          rw [show (jd_340 p0) = (-1) from by unfold jd_340; exact ((if_neg q1).trans ((if_neg q2).trans ((if_neg q3).trans ((if_neg q4).trans ((if_neg q5).trans ((if_neg q6).trans ((if_neg q7).trans ((if_neg q8).trans ((if_neg q9).trans ((if_neg q10).trans ((if_neg q11).trans ((if_neg q12).trans ((if_neg q13).trans ((if_neg q14).trans ((if_neg q15).trans ((if_neg q16).trans ((if_neg q17).trans ((if_neg q18).trans ((if_neg q19).trans (if_pos q20))))))))))))))))))))]
                                          exact ey_reti (cd_340 rfl) mt_340 rfl
                                        · by_cases q21 : (jw p0) = 97
                                          · refine ey_tsw (cd_340 rfl) q21 (by decide) rfl rfl ?_
                                            refine ey_bipush (cd_340 rfl) (by decide) ?_
                                            rw [show (jd_340 p0) = 14 from by unfold jd_340; exact ((if_neg q1).trans ((if_neg q2).trans ((if_neg q3).trans ((if_neg q4).trans ((if_neg q5).trans ((if_neg q6).trans ((if_neg q7).trans ((if_neg q8).trans ((if_neg q9).trans ((if_neg q10).trans ((if_neg q11).trans ((if_neg q12).trans ((if_neg q13).trans ((if_neg q14).trans ((if_neg q15).trans ((if_neg q16).trans ((if_neg q17).trans ((if_neg q18).trans ((if_neg q19).trans ((if_neg q20).trans (if_pos q21)))))))))))))))))))))]
                                            exact ey_reti (cd_340 rfl) mt_340 rfl
                                          · by_cases q22 : (jw p0) = 98
                                            · refine ey_tsw (cd_340 rfl) q22 (by decide) rfl rfl ?_
                                              refine ey_iconst (cd_340 rfl) ?_
                                              rw [show (jd_340 p0) = (-1) from by unfold jd_340; exact ((if_neg q1).trans ((if_neg q2).trans ((if_neg q3).trans ((if_neg q4).trans ((if_neg q5).trans ((if_neg q6).trans ((if_neg q7).trans ((if_neg q8).trans ((if_neg q9).trans ((if_neg q10).trans ((if_neg q11).trans ((if_neg q12).trans ((if_neg q13).trans ((if_neg q14).trans ((if_neg q15).trans ((if_neg q16).trans ((if_neg q17).trans ((if_neg q18).trans ((if_neg q19).trans ((if_neg q20).trans ((if_neg q21).trans (if_pos q22))))))))))))))))))))))]
                                              exact ey_reti (cd_340 rfl) mt_340 rfl
                                            · by_cases q23 : (jw p0) = 99
                                              · refine ey_tsw (cd_340 rfl) q23 (by decide) rfl rfl ?_
                                                refine ey_iconst (cd_340 rfl) ?_
                                                rw [show (jd_340 p0) = (-1) from by unfold jd_340; exact ((if_neg q1).trans ((if_neg q2).trans ((if_neg q3).trans ((if_neg q4).trans ((if_neg q5).trans ((if_neg q6).trans ((if_neg q7).trans ((if_neg q8).trans ((if_neg q9).trans ((if_neg q10).trans ((if_neg q11).trans ((if_neg q12).trans ((if_neg q13).trans ((if_neg q14).trans ((if_neg q15).trans ((if_neg q16).trans ((if_neg q17).trans ((if_neg q18).trans ((if_neg q19).trans ((if_neg q20).trans ((if_neg q21).trans ((if_neg q22).trans (if_pos q23)))))))))))))))))))))))]
                                                exact ey_reti (cd_340 rfl) mt_340 rfl
                                              · by_cases q24 : (jw p0) = 100
                                                · refine ey_tsw (cd_340 rfl) q24 (by decide) rfl rfl ?_
                                                  refine ey_iconst (cd_340 rfl) ?_
                                                  rw [show (jd_340 p0) = (-1) from by unfold jd_340; exact ((if_neg q1).trans ((if_neg q2).trans ((if_neg q3).trans ((if_neg q4).trans ((if_neg q5).trans ((if_neg q6).trans ((if_neg q7).trans ((if_neg q8).trans ((if_neg q9).trans ((if_neg q10).trans ((if_neg q11).trans ((if_neg q12).trans ((if_neg q13).trans ((if_neg q14).trans ((if_neg q15).trans ((if_neg q16).trans ((if_neg q17).trans ((if_neg q18).trans ((if_neg q19).trans ((if_neg q20).trans ((if_neg q21).trans ((if_neg q22).trans ((if_neg q23).trans (if_pos q24))))))))))))))))))))))))]
                                                  exact ey_reti (cd_340 rfl) mt_340 rfl
                                                · by_cases q25 : (jw p0) = 101
                                                  · refine ey_tsw (cd_340 rfl) q25 (by decide) rfl rfl ?_
                                                    refine ey_iconst (cd_340 rfl) ?_
                                                    rw [show (jd_340 p0) = (-1) from by unfold jd_340; exact ((if_neg q1).trans ((if_neg q2).trans ((if_neg q3).trans ((if_neg q4).trans ((if_neg q5).trans ((if_neg q6).trans ((if_neg q7).trans ((if_neg q8).trans ((if_neg q9).trans ((if_neg q10).trans ((if_neg q11).trans ((if_neg q12).trans ((if_neg q13).trans ((if_neg q14).trans ((if_neg q15).trans ((if_neg q16).trans ((if_neg q17).trans ((if_neg q18).trans ((if_neg q19).trans ((if_neg q20).trans ((if_neg q21).trans ((if_neg q22).trans ((if_neg q23).trans ((if_neg q24).trans (if_pos q25)))))))))))))))))))))))))]
                                                    exact ey_reti (cd_340 rfl) mt_340 rfl
                                                  · by_cases q26 : (jw p0) = 102
                                                    · refine ey_tsw (cd_340 rfl) q26 (by decide) rfl rfl ?_
                                                      refine ey_iconst (cd_340 rfl) ?_
                                                      rw [show (jd_340 p0) = (-1) from by unfold jd_340; exact ((if_neg q1).trans ((if_neg q2).trans ((if_neg q3).trans ((if_neg q4).trans ((if_neg q5).trans ((if_neg q6).trans ((if_neg q7).trans ((if_neg q8).trans ((if_neg q9).trans ((if_neg q10).trans ((if_neg q11).trans ((if_neg q12).trans ((if_neg q13).trans ((if_neg q14).trans ((if_neg q15).trans ((if_neg q16).trans ((if_neg q17).trans ((if_neg q18).trans ((if_neg q19).trans ((if_neg q20).trans ((if_neg q21).trans ((if_neg q22).trans ((if_neg q23).trans ((if_neg q24).trans ((if_neg q25).trans (if_pos q26))))))))))))))))))))))))))]
                                                      exact ey_reti (cd_340 rfl) mt_340 rfl
                                                    · by_cases q27 : (jw p0) = 103
                                                      · refine ey_tsw (cd_340 rfl) q27 (by decide) rfl rfl ?_
                                                        refine ey_iconst (cd_340 rfl) ?_
                                                        rw [show (jd_340 p0) = (-1) from by unfold jd_340; exact ((if_neg q1).trans ((if_neg q2).trans ((if_neg q3).trans ((if_neg q4).trans ((if_neg q5).trans ((if_neg q6).trans ((if_neg q7).trans ((if_neg q8).trans ((if_neg q9).trans ((if_neg q10).trans ((if_neg q11).trans ((if_neg q12).trans ((if_neg q13).trans ((if_neg q14).trans ((if_neg q15).trans ((if_neg q16).trans ((if_neg q17).trans ((if_neg q18).trans ((if_neg q19).trans ((if_neg q20).trans ((if_neg q21).trans ((if_neg q22).trans ((if_neg q23).trans ((if_neg q24).trans ((if_neg q25).trans ((if_neg q26).trans (if_pos q27)))))))))))))))))))))))))))]
                                                        exact ey_reti (cd_340 rfl) mt_340 rfl
                                                      · by_cases q28 : (jw p0) = 104
                                                        · refine ey_tsw (cd_340 rfl) q28 (by decide) rfl rfl ?_
                                                          refine ey_iconst (cd_340 rfl) ?_
                                                          rw [show (jd_340 p0) = 4 from by unfold jd_340; exact ((if_neg q1).trans ((if_neg q2).trans ((if_neg q3).trans ((if_neg q4).trans ((if_neg q5).trans ((if_neg q6).trans ((if_neg q7).trans ((if_neg q8).trans ((if_neg q9).trans ((if_neg q10).trans ((if_neg q11).trans ((if_neg q12).trans ((if_neg q13).trans ((if_neg q14).trans ((if_neg q15).trans ((if_neg q16).trans ((if_neg q17).trans ((if_neg q18).trans ((if_neg q19).trans ((if_neg q20).trans ((if_neg q21).trans ((if_neg q22).trans ((if_neg q23).trans ((if_neg q24).trans ((if_neg q25).trans ((if_neg q26).trans ((if_neg q27).trans (if_pos q28))))))))))))))))))))))))))))]
                                                          exact ey_reti (cd_340 rfl) mt_340 rfl
                                                        · by_cases q29 : (jw p0) = 105
                                                          · refine ey_tsw (cd_340 rfl) q29 (by decide) rfl rfl ?_
                                                            refine ey_bipush (cd_340 rfl) (by decide) ?_
                                                            rw [show (jd_340 p0) = 17 from by unfold jd_340; exact ((if_neg q1).trans ((if_neg q2).trans ((if_neg q3).trans ((if_neg q4).trans ((if_neg q5).trans ((if_neg q6).trans ((if_neg q7).trans ((if_neg q8).trans ((if_neg q9).trans ((if_neg q10).trans ((if_neg q11).trans ((if_neg q12).trans ((if_neg q13).trans ((if_neg q14).trans ((if_neg q15).trans ((if_neg q16).trans ((if_neg q17).trans ((if_neg q18).trans ((if_neg q19).trans ((if_neg q20).trans ((if_neg q21).trans ((if_neg q22).trans ((if_neg q23).trans ((if_neg q24).trans ((if_neg q25).trans ((if_neg q26).trans ((if_neg q27).trans ((if_neg q28).trans (if_pos q29)))))))))))))))))))))))))))))]
                                                            exact ey_reti (cd_340 rfl) mt_340 rfl
                                                          · by_cases q30 : (jw p0) = 106
                                                            · refine ey_tsw (cd_340 rfl) q30 (by decide) rfl rfl ?_
                                                              refine ey_iconst (cd_340 rfl) ?_
                                                              rw [show (jd_340 p0) = (-1) from by unfold jd_340; exact ((if_neg q1).trans ((if_neg q2).trans ((if_neg q3).trans ((if_neg q4).trans ((if_neg q5).trans ((if_neg q6).trans ((if_neg q7).trans ((if_neg q8).trans ((if_neg q9).trans ((if_neg q10).trans ((if_neg q11).trans ((if_neg q12).trans ((if_neg q13).trans ((if_neg q14).trans ((if_neg q15).trans ((if_neg q16).trans ((if_neg q17).trans ((if_neg q18).trans ((if_neg q19).trans ((if_neg q20).trans ((if_neg q21).trans ((if_neg q22).trans ((if_neg q23).trans ((if_neg q24).trans ((if_neg q25).trans ((if_neg q26).trans ((if_neg q27).trans ((if_neg q28).trans ((if_neg q29).trans (if_pos q30))))))))))))))))))))))))))))))]
                                                              exact ey_reti (cd_340 rfl) mt_340 rfl
                                                            · by_cases q31 : (jw p0) = 107
                                                              · refine ey_tsw (cd_340 rfl) q31 (by decide) rfl rfl ?_
                                                                refine ey_iconst (cd_340 rfl) ?_
                                                                rw [show (jd_340 p0) = (-1) from by unfold jd_340; exact ((if_neg q1).trans ((if_neg q2).trans ((if_neg q3).trans ((if_neg q4).trans ((if_neg q5).trans ((if_neg q6).trans ((if_neg q7).trans ((if_neg q8).trans ((if_neg q9).trans ((if_neg q10).trans ((if_neg q11).trans ((if_neg q12).trans ((if_neg q13).trans ((if_neg q14).trans ((if_neg q15).trans ((if_neg q16).trans ((if_neg q17).trans ((if_neg q18).trans ((if_neg q19).trans ((if_neg q20).trans ((if_neg q21).trans ((if_neg q22).trans ((if_neg q23).trans ((if_neg q24).trans ((if_neg q25).trans ((if_neg q26).trans ((if_neg q27).trans ((if_neg q28).trans ((if_neg q29).trans ((if_neg q30).trans (if_pos q31)))))))))))))))))))))))))))))))]
                                                                exact ey_reti (cd_340 rfl) mt_340 rfl
                                                              · by_cases q32 : (jw p0) = 108
                                                                · refine ey_tsw (cd_340 rfl) q32 (by decide) rfl rfl ?_
                                                                  refine ey_iconst (cd_340 rfl) ?_
                                                                  rw [show (jd_340 p0) = (-1) from by unfold jd_340; exact ((if_neg q1).trans ((if_neg q2).trans ((if_neg q3).trans ((if_neg q4).trans ((if_neg q5).trans ((if_neg q6).trans ((if_neg q7).trans ((if_neg q8).trans ((if_neg q9).trans ((if_neg q10).trans ((if_neg q11).trans ((if_neg q12).trans ((if_neg q13).trans ((if_neg q14).trans ((if_neg q15).trans ((if_neg q16).trans ((if_neg q17).trans ((if_neg q18).trans ((if_neg q19).trans ((if_neg q20).trans ((if_neg q21).trans ((if_neg q22).trans ((if_neg q23).trans ((if_neg q24).trans ((if_neg q25).trans ((if_neg q26).trans ((if_neg q27).trans ((if_neg q28).trans ((if_neg q29).trans ((if_neg q30).trans ((if_neg q31).trans (if_pos q32))))))))))))))))))))))))))))))))]
                                                                  exact ey_reti (cd_340 rfl) mt_340 rfl
                                                                · by_cases q33 : (jw p0) = 109
                                                                  · refine ey_tsw (cd_340 rfl) q33 (by decide) rfl rfl ?_
                                                                    refine ey_bipush (cd_340 rfl) (by decide) ?_
                                                                    rw [show (jd_340 p0) = 15 from by unfold jd_340; exact ((if_neg q1).trans ((if_neg q2).trans ((if_neg q3).trans ((if_neg q4).trans ((if_neg q5).trans ((if_neg q6).trans ((if_neg q7).trans ((if_neg q8).trans ((if_neg q9).trans ((if_neg q10).trans ((if_neg q11).trans ((if_neg q12).trans ((if_neg q13).trans ((if_neg q14).trans ((if_neg q15).trans ((if_neg q16).trans ((if_neg q17).trans ((if_neg q18).trans ((if_neg q19).trans ((if_neg q20).trans ((if_neg q21).trans ((if_neg q22).trans ((if_neg q23).trans ((if_neg q24).trans ((if_neg q25).trans ((if_neg q26).trans ((if_neg q27).trans ((if_neg q28).trans ((if_neg q29).trans ((if_neg q30).trans ((if_neg q31).trans ((if_neg q32).trans (if_pos q33)))))))))))))))))))))))))))))))))]
                                                                    exact ey_reti (cd_340 rfl) mt_340 rfl
                                                                  · by_cases q34 : (jw p0) = 110
                                                                    · refine ey_tsw (cd_340 rfl) q34 (by decide) rfl rfl ?_
                                                                      refine ey_iconst (cd_340 rfl) ?_
                                                                      rw [show (jd_340 p0) = 5 from by unfold jd_340; exact ((if_neg q1).trans ((if_neg q2).trans ((if_neg q3).trans ((if_neg q4).trans ((if_neg q5).trans ((if_neg q6).trans ((if_neg q7).trans ((if_neg q8).trans ((if_neg q9).trans ((if_neg q10).trans ((if_neg q11).trans ((if_neg q12).trans ((if_neg q13).trans ((if_neg q14).trans ((if_neg q15).trans ((if_neg q16).trans ((if_neg q17).trans ((if_neg q18).trans ((if_neg q19).trans ((if_neg q20).trans ((if_neg q21).trans ((if_neg q22).trans ((if_neg q23).trans ((if_neg q24).trans ((if_neg q25).trans ((if_neg q26).trans ((if_neg q27).trans ((if_neg q28).trans ((if_neg q29).trans ((if_neg q30).trans ((if_neg q31).trans ((if_neg q32).trans ((if_neg q33).trans (if_pos q34))))))))))))))))))))))))))))))))))]
                                                                      exact ey_reti (cd_340 rfl) mt_340 rfl
                                                                    · by_cases q35 : (jw p0) = 111
                                                                      · refine ey_tsw (cd_340 rfl) q35 (by decide) rfl rfl ?_
                                                                        refine ey_iconst (cd_340 rfl) ?_
                                                                        rw [show (jd_340 p0) = (-1) from by unfold jd_340; exact ((if_neg q1).trans ((if_neg q2).trans ((if_neg q3).trans ((if_neg q4).trans ((if_neg q5).trans ((if_neg q6).trans ((if_neg q7).trans ((if_neg q8).trans ((if_neg q9).trans ((if_neg q10).trans ((if_neg q11).trans ((if_neg q12).trans ((if_neg q13).trans ((if_neg q14).trans ((if_neg q15).trans ((if_neg q16).trans ((if_neg q17).trans ((if_neg q18).trans ((if_neg q19).trans ((if_neg q20).trans ((if_neg q21).trans ((if_neg q22).trans ((if_neg q23).trans ((if_neg q24).trans ((if_neg q25).trans ((if_neg q26).trans ((if_neg q27).trans ((if_neg q28).trans ((if_neg q29).trans ((if_neg q30).trans ((if_neg q31).trans ((if_neg q32).trans ((if_neg q33).trans ((if_neg q34).trans (if_pos q35)))))))))))))))))))))))))))))))))))]
                                                                        exact ey_reti (cd_340 rfl) mt_340 rfl
                                                                      · by_cases q36 : (jw p0) = 112
                                                                        · refine ey_tsw (cd_340 rfl) q36 (by decide) rfl rfl ?_
                                                                          refine ey_iconst (cd_340 rfl) ?_
                                                                          rw [show (jd_340 p0) = (-1) from by unfold jd_340; exact ((if_neg q1).trans ((if_neg q2).trans ((if_neg q3).trans ((if_neg q4).trans ((if_neg q5).trans ((if_neg q6).trans ((if_neg q7).trans ((if_neg q8).trans ((if_neg q9).trans ((if_neg q10).trans ((if_neg q11).trans ((if_neg q12).trans ((if_neg q13).trans ((if_neg q14).trans ((if_neg q15).trans ((if_neg q16).trans ((if_neg q17).trans ((if_neg q18).trans ((if_neg q19).trans ((if_neg q20).trans ((if_neg q21).trans ((if_neg q22).trans ((if_neg q23).trans ((if_neg q24).trans ((if_neg q25).trans ((if_neg q26).trans ((if_neg q27).trans ((if_neg q28).trans ((if_neg q29).trans ((if_neg q30).trans ((if_neg q31).trans ((if_neg q32).trans ((if_neg q33).trans ((if_neg q34).trans ((if_neg q35).trans (if_pos q36))))))))))))))))))))))))))))))))))))]
                                                                          exact ey_reti (cd_340 rfl) mt_340 rfl
                                                                        · by_cases q37 : (jw p0) = 113
                                                                          · refine ey_tsw (cd_340 rfl) q37 (by decide) rfl rfl ?_
                                                                            refine ey_iconst (cd_340 rfl) ?_
                                                                            rw [show (jd_340 p0) = (-1) from by unfold jd_340; exact ((if_neg q1).trans ((if_neg q2).trans ((if_neg q3).trans ((if_neg q4).trans ((if_neg q5).trans ((if_neg q6).trans ((if_neg q7).trans ((if_neg q8).trans ((if_neg q9).trans ((if_neg q10).trans ((if_neg q11).trans ((if_neg q12).trans ((if_neg q13).trans ((if_neg q14).trans ((if_neg q15).trans ((if_neg q16).trans ((if_neg q17).trans ((if_neg q18).trans ((if_neg q19).trans ((if_neg q20).trans ((if_neg q21).trans ((if_neg q22).trans ((if_neg q23).trans ((if_neg q24).trans ((if_neg q25).trans ((if_neg q26).trans ((if_neg q27).trans ((if_neg q28).trans ((if_neg q29).trans ((if_neg q30).trans ((if_neg q31).trans ((if_neg q32).trans ((if_neg q33).trans ((if_neg q34).trans ((if_neg q35).trans ((if_neg q36).trans (if_pos q37)))))))))))))))))))))))))))))))))))))]
                                                                            exact ey_reti (cd_340 rfl) mt_340 rfl
                                                                          · by_cases q38 : (jw p0) = 114
                                                                            · refine ey_tsw (cd_340 rfl) q38 (by decide) rfl rfl ?_
                                                                              refine ey_iconst (cd_340 rfl) ?_
                                                                              rw [show (jd_340 p0) = (-1) from by unfold jd_340; exact ((if_neg q1).trans ((if_neg q2).trans ((if_neg q3).trans ((if_neg q4).trans ((if_neg q5).trans ((if_neg q6).trans ((if_neg q7).trans ((if_neg q8).trans ((if_neg q9).trans ((if_neg q10).trans ((if_neg q11).trans ((if_neg q12).trans ((if_neg q13).trans ((if_neg q14).trans ((if_neg q15).trans ((if_neg q16).trans ((if_neg q17).trans ((if_neg q18).trans ((if_neg q19).trans ((if_neg q20).trans ((if_neg q21).trans ((if_neg q22).trans ((if_neg q23).trans ((if_neg q24).trans ((if_neg q25).trans ((if_neg q26).trans ((if_neg q27).trans ((if_neg q28).trans ((if_neg q29).trans ((if_neg q30).trans ((if_neg q31).trans ((if_neg q32).trans ((if_neg q33).trans ((if_neg q34).trans ((if_neg q35).trans ((if_neg q36).trans ((if_neg q37).trans (if_pos q38))))))))))))))))))))))))))))))))))))))]
                                                                              exact ey_reti (cd_340 rfl) mt_340 rfl
                                                                            · by_cases q39 : (jw p0) = 115
                                                                              · refine ey_tsw (cd_340 rfl) q39 (by decide) rfl rfl ?_
                                                                                refine ey_bipush (cd_340 rfl) (by decide) ?_
                                                                                rw [show (jd_340 p0) = 7 from by unfold jd_340; exact ((if_neg q1).trans ((if_neg q2).trans ((if_neg q3).trans ((if_neg q4).trans ((if_neg q5).trans ((if_neg q6).trans ((if_neg q7).trans ((if_neg q8).trans ((if_neg q9).trans ((if_neg q10).trans ((if_neg q11).trans ((if_neg q12).trans ((if_neg q13).trans ((if_neg q14).trans ((if_neg q15).trans ((if_neg q16).trans ((if_neg q17).trans ((if_neg q18).trans ((if_neg q19).trans ((if_neg q20).trans ((if_neg q21).trans ((if_neg q22).trans ((if_neg q23).trans ((if_neg q24).trans ((if_neg q25).trans ((if_neg q26).trans ((if_neg q27).trans ((if_neg q28).trans ((if_neg q29).trans ((if_neg q30).trans ((if_neg q31).trans ((if_neg q32).trans ((if_neg q33).trans ((if_neg q34).trans ((if_neg q35).trans ((if_neg q36).trans ((if_neg q37).trans ((if_neg q38).trans (if_pos q39)))))))))))))))))))))))))))))))))))))))]
                                                                                exact ey_reti (cd_340 rfl) mt_340 rfl
                                                                              · by_cases q40 : (jw p0) = 116
                                                                                · refine ey_tsw (cd_340 rfl) q40 (by decide) rfl rfl ?_
                                                                                  refine ey_bipush (cd_340 rfl) (by decide) ?_
                                                                                  rw [show (jd_340 p0) = 6 from by unfold jd_340; exact ((if_neg q1).trans ((if_neg q2).trans ((if_neg q3).trans ((if_neg q4).trans ((if_neg q5).trans ((if_neg q6).trans ((if_neg q7).trans ((if_neg q8).trans ((if_neg q9).trans ((if_neg q10).trans ((if_neg q11).trans ((if_neg q12).trans ((if_neg q13).trans ((if_neg q14).trans ((if_neg q15).trans ((if_neg q16).trans ((if_neg q17).trans ((if_neg q18).trans ((if_neg q19).trans ((if_neg q20).trans ((if_neg q21).trans ((if_neg q22).trans ((if_neg q23).trans ((if_neg q24).trans ((if_neg q25).trans ((if_neg q26).trans ((if_neg q27).trans ((if_neg q28).trans ((if_neg q29).trans ((if_neg q30).trans ((if_neg q31).trans ((if_neg q32).trans ((if_neg q33).trans ((if_neg q34).trans ((if_neg q35).trans ((if_neg q36).trans ((if_neg q37).trans ((if_neg q38).trans ((if_neg q39).trans (if_pos q40))))))))))))))))))))))))))))))))))))))))]
                                                                                  exact ey_reti (cd_340 rfl) mt_340 rfl
                                                                                · by_cases q41 : (jw p0) = 117
                                                                                  · refine ey_tsw (cd_340 rfl) q41 (by decide) rfl rfl ?_
                                                                                    refine ey_iconst (cd_340 rfl) ?_
                                                                                    rw [show (jd_340 p0) = (-1) from by unfold jd_340; exact ((if_neg q1).trans ((if_neg q2).trans ((if_neg q3).trans ((if_neg q4).trans ((if_neg q5).trans ((if_neg q6).trans ((if_neg q7).trans ((if_neg q8).trans ((if_neg q9).trans ((if_neg q10).trans ((if_neg q11).trans ((if_neg q12).trans ((if_neg q13).trans ((if_neg q14).trans ((if_neg q15).trans ((if_neg q16).trans ((if_neg q17).trans ((if_neg q18).trans ((if_neg q19).trans ((if_neg q20).trans ((if_neg q21).trans ((if_neg q22).trans ((if_neg q23).trans ((if_neg q24).trans ((if_neg q25).trans ((if_neg q26).trans ((if_neg q27).trans ((if_neg q28).trans ((if_neg q29).trans ((if_neg q30).trans ((if_neg q31).trans ((if_neg q32).trans ((if_neg q33).trans ((if_neg q34).trans ((if_neg q35).trans ((if_neg q36).trans ((if_neg q37).trans ((if_neg q38).trans ((if_neg q39).trans ((if_neg q40).trans (if_pos q41)))))))))))))))))))))))))))))))))))))))))]
                                                                                    exact ey_reti (cd_340 rfl) mt_340 rfl
                                                                                  · by_cases q42 : (jw p0) = 118
                                                                                    · refine ey_tsw (cd_340 rfl) q42 (by decide) rfl rfl ?_
                                                                                      refine ey_iconst (cd_340 rfl) ?_
                                                                                      rw [show (jd_340 p0) = (-1) from by unfold jd_340; exact ((if_neg q1).trans ((if_neg q2).trans ((if_neg q3).trans ((if_neg q4).trans ((if_neg q5).trans ((if_neg q6).trans ((if_neg q7).trans ((if_neg q8).trans ((if_neg q9).trans ((if_neg q10).trans ((if_neg q11).trans ((if_neg q12).trans ((if_neg q13).trans ((if_neg q14).trans ((if_neg q15).trans ((if_neg q16).trans ((if_neg q17).trans ((if_neg q18).trans ((if_neg q19).trans ((if_neg q20).trans ((if_neg q21).trans ((if_neg q22).trans ((if_neg q23).trans ((if_neg q24).trans ((if_neg q25).trans ((if_neg q26).trans ((if_neg q27).trans ((if_neg q28).trans ((if_neg q29).trans ((if_neg q30).trans ((if_neg q31).trans ((if_neg q32).trans ((if_neg q33).trans ((if_neg q34).trans ((if_neg q35).trans ((if_neg q36).trans ((if_neg q37).trans ((if_neg q38).trans ((if_neg q39).trans ((if_neg q40).trans ((if_neg q41).trans (if_pos q42))))))))))))))))))))))))))))))))))))))))))]
                                                                                      exact ey_reti (cd_340 rfl) mt_340 rfl
                                                                                    · by_cases q43 : (jw p0) = 119
                                                                                      · refine ey_tsw (cd_340 rfl) q43 (by decide) rfl rfl ?_
                                                                                        refine ey_iconst (cd_340 rfl) ?_
                                                                                        rw [show (jd_340 p0) = 3 from by unfold jd_340; exact ((if_neg q1).trans ((if_neg q2).trans ((if_neg q3).trans ((if_neg q4).trans ((if_neg q5).trans ((if_neg q6).trans ((if_neg q7).trans ((if_neg q8).trans ((if_neg q9).trans ((if_neg q10).trans ((if_neg q11).trans ((if_neg q12).trans ((if_neg q13).trans ((if_neg q14).trans ((if_neg q15).trans ((if_neg q16).trans ((if_neg q17).trans ((if_neg q18).trans ((if_neg q19).trans ((if_neg q20).trans ((if_neg q21).trans ((if_neg q22).trans ((if_neg q23).trans ((if_neg q24).trans ((if_neg q25).trans ((if_neg q26).trans ((if_neg q27).trans ((if_neg q28).trans ((if_neg q29).trans ((if_neg q30).trans ((if_neg q31).trans ((if_neg q32).trans ((if_neg q33).trans ((if_neg q34).trans ((if_neg q35).trans ((if_neg q36).trans ((if_neg q37).trans ((if_neg q38).trans ((if_neg q39).trans ((if_neg q40).trans ((if_neg q41).trans ((if_neg q42).trans (if_pos q43)))))))))))))))))))))))))))))))))))))))))))]
                                                                                        exact ey_reti (cd_340 rfl) mt_340 rfl
                                                                                      · by_cases q44 : (jw p0) = 120
                                                                                        · refine ey_tsw (cd_340 rfl) q44 (by decide) rfl rfl ?_
                                                                                          refine ey_iconst (cd_340 rfl) ?_
                                                                                          rw [show (jd_340 p0) = 1 from by unfold jd_340; exact ((if_neg q1).trans ((if_neg q2).trans ((if_neg q3).trans ((if_neg q4).trans ((if_neg q5).trans ((if_neg q6).trans ((if_neg q7).trans ((if_neg q8).trans ((if_neg q9).trans ((if_neg q10).trans ((if_neg q11).trans ((if_neg q12).trans ((if_neg q13).trans ((if_neg q14).trans ((if_neg q15).trans ((if_neg q16).trans ((if_neg q17).trans ((if_neg q18).trans ((if_neg q19).trans ((if_neg q20).trans ((if_neg q21).trans ((if_neg q22).trans ((if_neg q23).trans ((if_neg q24).trans ((if_neg q25).trans ((if_neg q26).trans ((if_neg q27).trans ((if_neg q28).trans ((if_neg q29).trans ((if_neg q30).trans ((if_neg q31).trans ((if_neg q32).trans ((if_neg q33).trans ((if_neg q34).trans ((if_neg q35).trans ((if_neg q36).trans ((if_neg q37).trans ((if_neg q38).trans ((if_neg q39).trans ((if_neg q40).trans ((if_neg q41).trans ((if_neg q42).trans ((if_neg q43).trans (if_pos q44))))))))))))))))))))))))))))))))))))))))))))]
                                                                                          exact ey_reti (cd_340 rfl) mt_340 rfl
                                                                                        · by_cases q45 : (jw p0) = 121
                                                                                          · refine ey_tsw (cd_340 rfl) q45 (by decide) rfl rfl ?_
                                                                                            refine ey_iconst (cd_340 rfl) ?_
                                                                                            rw [show (jd_340 p0) = 2 from by unfold jd_340; exact ((if_neg q1).trans ((if_neg q2).trans ((if_neg q3).trans ((if_neg q4).trans ((if_neg q5).trans ((if_neg q6).trans ((if_neg q7).trans ((if_neg q8).trans ((if_neg q9).trans ((if_neg q10).trans ((if_neg q11).trans ((if_neg q12).trans ((if_neg q13).trans ((if_neg q14).trans ((if_neg q15).trans ((if_neg q16).trans ((if_neg q17).trans ((if_neg q18).trans ((if_neg q19).trans ((if_neg q20).trans ((if_neg q21).trans ((if_neg q22).trans ((if_neg q23).trans ((if_neg q24).trans ((if_neg q25).trans ((if_neg q26).trans ((if_neg q27).trans ((if_neg q28).trans ((if_neg q29).trans ((if_neg q30).trans ((if_neg q31).trans ((if_neg q32).trans ((if_neg q33).trans ((if_neg q34).trans ((if_neg q35).trans ((if_neg q36).trans ((if_neg q37).trans ((if_neg q38).trans ((if_neg q39).trans ((if_neg q40).trans ((if_neg q41).trans ((if_neg q42).trans ((if_neg q43).trans ((if_neg q44).trans (if_pos q45)))))))))))))))))))))))))))))))))))))))))))))]
                                                                                            exact ey_reti (cd_340 rfl) mt_340 rfl
                                                                                          · refine ey_tsw_d (cd_340 rfl) (by omega) rfl ?_
                                                                                            refine ey_iconst (cd_340 rfl) ?_
                                                                                            rw [show (jd_340 p0) = (-1) from by unfold jd_340; exact ((if_neg q1).trans ((if_neg q2).trans ((if_neg q3).trans ((if_neg q4).trans ((if_neg q5).trans ((if_neg q6).trans ((if_neg q7).trans ((if_neg q8).trans ((if_neg q9).trans ((if_neg q10).trans ((if_neg q11).trans ((if_neg q12).trans ((if_neg q13).trans ((if_neg q14).trans ((if_neg q15).trans ((if_neg q16).trans ((if_neg q17).trans ((if_neg q18).trans ((if_neg q19).trans ((if_neg q20).trans ((if_neg q21).trans ((if_neg q22).trans ((if_neg q23).trans ((if_neg q24).trans ((if_neg q25).trans ((if_neg q26).trans ((if_neg q27).trans ((if_neg q28).trans ((if_neg q29).trans ((if_neg q30).trans ((if_neg q31).trans ((if_neg q32).trans ((if_neg q33).trans ((if_neg q34).trans ((if_neg q35).trans ((if_neg q36).trans ((if_neg q37).trans ((if_neg q38).trans ((if_neg q39).trans ((if_neg q40).trans ((if_neg q41).trans ((if_neg q42).trans ((if_neg q43).trans ((if_neg q44).trans (if_neg q45)))))))))))))))))))))))))))))))))))))))))))))]
                                                                                            exact ey_reti (cd_340 rfl) mt_340 rfl
theorem cd_341 {pc : Nat} {i : Instr × Nat} (h : mm_lk mm_c341 pc = some i) : mm_cd 341 pc = some i := h
theorem mt_341 : mm_MT 341 = (12, 1, none, 0, 0, []) := rfl
set_option maxRecDepth 100000 in
theorem jk_341_b13 {L : Nat} {xs : Nat → Int32} {b : jH} (hb : 152 ≤ b.1) (h6 : b.1 ≤ 1000000)  {m : jM} {o : jM} (e : jd_341_b13  m = some o) : ∀ lv : jL, lv 0 = some (jR (some 76)) → ey (mm_xt L xs) 1 341 13 lv [] (jhm b m) (.inl (none, jaH (jhm b o))) := by
  intro lv f0
  unfold jd_341_b13 at e
  refine ey_aload_n (cd_341 rfl) f0 ?_
  refine ey_dup (cd_341 rfl) rfl ?_
  refine ey_getf_i (z := (m 76 101)) (cd_341 rfl) mt_341 rfl rfl rfl (jhm_gi hb 101) ?_
  refine ey_iconst (cd_341 rfl) ?_
  refine ey_iadd (cd_341 rfl) ?_
  obtain ⟨m4, e5, e⟩ := jbind e
  refine ey_putf_i (cd_341 rfl) mt_341 rfl rfl rfl (jhm_pi' (k := 101) hb e5) ?_
  cases e
  exact ey_retv (cd_341 rfl) mt_341 rfl
set_option maxRecDepth 100000 in
theorem ok_341 {L : Nat} {xs : Nat → Int32} {b : jH} (hb : 152 ≤ b.1) (h6 : b.1 ≤ 1000000)  {m : jM} {o : jM} (e : jd_341  m = some o) : mm_Runs (mm_xt L xs) 2 341 ([jR (some 76)].map jcv) (jaH (jhm b m)) (.inl (none, jaH (jhm b o))) := by
  refine ey_run0 _ mt_341 (jsl_s rfl) ?_
  unfold jd_341 at e
  refine ey_aload_n (cd_341 rfl) rfl ?_
  refine ey_getf_i (z := (m 76 101)) (cd_341 rfl) mt_341 rfl rfl rfl (jhm_gi hb 101) ?_
  refine ey_bipush (cd_341 rfl) (by decide) ?_
  by_cases q1 : (jw (m 76 101)) = 12
  · rw [if_pos q1] at e
    refine ey_nne (cd_341 rfl) rfl rfl (show jw 12 = 12 from by decide) (fun w => w q1) ?_
    refine ey_aload_n (cd_341 rfl) rfl ?_
    obtain ⟨m2, e3, e⟩ := jbind e
    refine ey_cv (s0 := [jR (some 76)]) (s1 := []) (st' := []) (cd_341 rfl) mt_341 mt_334 rfl rfl rfl (jhm_is hb) rfl (jsml_s rfl) rfl (ok_334 hb h6 e3) ?_
    exact jk_341_b13 hb h6 e (jlf (jla 0 [jR (some 76)])) rfl
  · rw [if_neg q1] at e
    refine ey_cne (cd_341 rfl) rfl rfl (show jw 12 = 12 from by decide) q1 ?_
    exact jk_341_b13 hb h6 e (jlf (jla 0 [jR (some 76)])) rfl
theorem cd_342 {pc : Nat} {i : Instr × Nat} (h : mm_lk mm_c342 pc = some i) : mm_cd 342 pc = some i := h
theorem mt_342 : mm_MT 342 = (12, 4, some .boolean, 0, 0, []) := rfl
set_option maxRecDepth 100000 in
theorem jk_342_b117 {L : Nat} {xs : Nat → Int32} {b : jH} (hb : 152 ≤ b.1) (h6 : b.1 ≤ 1000000) {x1 : Int} {m : jM} {o : (Int × jM)} (e : jd_342_b117 x1 m = some o) : ∀ lv : jL, lv 0 = some (jR (some 76)) → lv 1 = some (jI x1) → ey (mm_xt L xs) 2 342 117 lv [] (jhm b m) (.inl (some (jcv (jI o.1)), jaH (jhm b o.2))) := by
  intro lv f0 f1
  unfold jd_342_b117 at e
  refine ey_aload_n (cd_342 rfl) f0 ?_
  obtain ⟨m5, e6, e⟩ := jbind e
  refine ey_cv (s0 := [jR (some 76)]) (s1 := []) (st' := []) (cd_342 rfl) mt_342 mt_341 rfl rfl rfl (jhm_is hb) rfl (jsml_s rfl) rfl (ok_341 hb h6 e6) ?_
  refine ey_aload_n (cd_342 rfl) f0 ?_
  refine ey_getf_i (z := (m5 76 97)) (cd_342 rfl) mt_342 rfl rfl rfl (jhm_gi hb 97) ?_
  refine ey_iconst (cd_342 rfl) ?_
  by_cases q7 : (jw (m5 76 97)) = (-1)
  · rw [if_pos q7] at e
    refine ey_ceq (cd_342 rfl) rfl rfl (show jw (-1) = (-1) from by decide) q7 ?_
    refine ey_aload_n (cd_342 rfl) f0 ?_
    refine ey_dup (cd_342 rfl) rfl ?_
    refine ey_getf_i (z := (m5 76 96)) (cd_342 rfl) mt_342 rfl rfl rfl (jhm_gi hb 96) ?_
    refine ey_iconst (cd_342 rfl) ?_
    refine ey_iadd (cd_342 rfl) ?_
    obtain ⟨m8, e9, e⟩ := jbind e
    refine ey_putf_i (cd_342 rfl) mt_342 rfl rfl rfl (jhm_pi' (k := 96) hb e9) ?_
    refine ey_aload_n (cd_342 rfl) f0 ?_
    refine ey_iload_n (cd_342 rfl) f1 ?_
    refine ey_bipush (cd_342 rfl) (by decide) ?_
    have K12 : ∀ lv : jL, ey (mm_xt L xs) 2 342 155 lv [jI (if (jw x1) = 45 then 8 else 18), jR (some 76)] (jhm b m8) (.inl (some (jcv (jI o.1)), jaH (jhm b o.2))) := by
      intro lv 
      refine ey_iconst (cd_342 rfl) ?_
      obtain ⟨m10, e11, e⟩ := jbind e
      refine ey_cv (s0 := [jI 1, jI (if (jw x1) = 45 then 8 else 18), jR (some 76)]) (s1 := []) (st' := []) (cd_342 rfl) mt_342 mt_338 rfl rfl rfl (jhm_is hb) rfl (jsml_s rfl) rfl (mm_Runs.up (d := 1) (by decide) (ok_338 hb h6 e11)) ?_
      refine ey_iconst (cd_342 rfl) ?_
      cases e
      exact ey_retz (cd_342 rfl) mt_342 rfl (Or.inl rfl)
    by_cases q13 : (jw x1) = 45
    · refine ey_nne (cd_342 rfl) rfl rfl (show jw 45 = 45 from by decide) (fun w => w q13) ?_
      refine ey_bipush (cd_342 rfl) (by decide) ?_
      refine ey_goto (cd_342 rfl) rfl ?_
      exact ey_rs (s0 := [jI 8, jR (some 76)]) (s1 := [jI (if (jw x1) = 45 then 8 else 18), jR (some 76)]) (by rw [show ((if (jw x1) = 45 then 8 else 18) : Int) = 8 from (if_pos q13)]) (K12 lv )
    · refine ey_cne (cd_342 rfl) rfl rfl (show jw 45 = 45 from by decide) q13 ?_
      refine ey_bipush (cd_342 rfl) (by decide) ?_
      exact ey_rs (s0 := [jI 18, jR (some 76)]) (s1 := [jI (if (jw x1) = 45 then 8 else 18), jR (some 76)]) (by rw [show ((if (jw x1) = 45 then 8 else 18) : Int) = 18 from (if_neg q13)]) (K12 lv )
  · rw [if_neg q7] at e
    refine ey_neq (cd_342 rfl) rfl rfl (show jw (-1) = (-1) from by decide) q7 ?_
    refine ey_iconst (cd_342 rfl) ?_
    cases e
    exact ey_retz (cd_342 rfl) mt_342 rfl (Or.inr rfl)
set_option maxRecDepth 100000 in
theorem jk_342_s16 {L : Nat} {xs : Nat → Int32} {b : jH} (hb : 152 ≤ b.1) (h6 : b.1 ≤ 1000000) {x2 : Int} {x3 : Int} {m : jM} {o : ((Int × Int × jM) ⊕ (jM ⊕ (Int × jM)))} {r : mm_R} (e : jd_342_s16 x2 x3 m = some o) (K : jsm (fun s => (∀ lv : jL, lv 0 = some (jR (some 76)) → lv 2 = some (jI s.1) → lv 3 = some (jI s.2.1) → ey (mm_xt L xs) 2 342 16 lv [] (jhm b s.2.2) r)) (fun x => (jsm (fun y => (∀ lv : jL, lv 0 = some (jR (some 76)) → ey (mm_xt L xs) 2 342 57 lv [] (jhm b y) r)) (fun z => (∀ lv : jL, lv 0 = some (jR (some 76)) → lv 2 = some (jI z.1) → ey (mm_xt L xs) 2 342 97 lv [] (jhm b z.2) r)) x)) o) : ∀ lv : jL, lv 0 = some (jR (some 76)) → lv 2 = some (jI x2) → lv 3 = some (jI x3) → ey (mm_xt L xs) 2 342 16 lv [] (jhm b m) r := by
  intro lv f0 f2 f3
  unfold jd_342_s16 at e
  refine ey_aload_n (cd_342 rfl) f0 ?_
  refine ey_getf_i (z := (m 76 96)) (cd_342 rfl) mt_342 rfl rfl rfl (jhm_gi hb 96) ?_
  refine ey_aload_n (cd_342 rfl) f0 ?_
  refine ey_getf_i (z := (m 76 5)) (cd_342 rfl) mt_342 rfl rfl rfl (jhm_gi hb 5) ?_
  by_cases q37 : (jw (m 76 5)) ≤ (jw (m 76 96))
  · rw [if_pos q37] at e
    refine ey_cge (cd_342 rfl) rfl rfl rfl q37 ?_
    cases e
    exact K lv f0 f2
  · rw [if_neg q37] at e
    refine ey_nge (cd_342 rfl) rfl rfl rfl q37 ?_
    refine ey_aload_n (cd_342 rfl) f0 ?_
    refine ey_getf_i (z := (m 76 96)) (cd_342 rfl) mt_342 rfl rfl rfl (jhm_gi hb 96) ?_
    refine ey_sipush (cd_342 rfl) (by decide) ?_
    by_cases q38 : 200 ≤ (jw (m 76 96))
    · rw [if_pos q38] at e
      refine ey_cge (cd_342 rfl) rfl rfl (show jw 200 = 200 from by decide) q38 ?_
      cases e
      exact K lv f0 f2
    · rw [if_neg q38] at e
      refine ey_nge (cd_342 rfl) rfl rfl (show jw 200 = 200 from by decide) q38 ?_
      refine ey_aload_n (cd_342 rfl) f0 ?_
      refine ey_getf_r (cd_342 rfl) mt_342 rfl rfl rfl (jhm_gr (q := 80) hb rfl) ?_
      refine ey_aload_n (cd_342 rfl) f0 ?_
      refine ey_getf_i (z := (m 76 96)) (cd_342 rfl) mt_342 rfl rfl rfl (jhm_gi hb 96) ?_
      obtain ⟨v39, e40, e⟩ := jbind e
      refine ey_iald (cd_342 rfl) (jhm_ai hb h6 (by decide) rfl e40) ?_
      refine ey_cs (s0 := [jI v39]) (s1 := []) (st' := [jI (jd_339 v39)]) (cd_342 rfl) mt_342 mt_339 rfl (by decide) rfl rfl (jsml_s rfl) rfl (ok_339 ) ?_
      by_cases q41 : (jw (jd_339 v39)) = 0
      · rw [if_pos q41] at e
        refine ey_zeq (cd_342 rfl) rfl rfl q41 ?_
        cases e
        exact K lv f0 f2
      · rw [if_neg q41] at e
        refine ey_yeq (cd_342 rfl) rfl rfl q41 ?_
        refine ey_iload_n (cd_342 rfl) f3 ?_
        refine ey_iconst (cd_342 rfl) ?_
        by_cases q42 : (jw x3) = 5
        · rw [if_pos q42] at e
          refine ey_nne (cd_342 rfl) rfl rfl (show jw 5 = 5 from by decide) (fun w => w q42) ?_
          cases e
          exact K lv f0
        · rw [if_neg q42] at e
          refine ey_cne (cd_342 rfl) rfl rfl (show jw 5 = 5 from by decide) q42 ?_
          refine ey_bipush (cd_342 rfl) (by decide) ?_
          refine ey_iload_n (cd_342 rfl) f2 ?_
          refine ey_imul (cd_342 rfl) ?_
          refine ey_aload_n (cd_342 rfl) f0 ?_
          refine ey_getf_r (cd_342 rfl) mt_342 rfl rfl rfl (jhm_gr (q := 80) hb rfl) ?_
          refine ey_aload_n (cd_342 rfl) f0 ?_
          refine ey_getf_i (z := (m 76 96)) (cd_342 rfl) mt_342 rfl rfl rfl (jhm_gi hb 96) ?_
          obtain ⟨v43, e44, e⟩ := jbind e
          refine ey_iald (cd_342 rfl) (jhm_ai hb h6 (by decide) rfl e44) ?_
          refine ey_iadd (cd_342 rfl) ?_
          refine ey_bipush (cd_342 rfl) (by decide) ?_
          refine ey_isub (cd_342 rfl) ?_
          refine ey_istore_n (cd_342 rfl) mt_342 rfl ?_
          refine ey_iinc (cd_342 rfl) mt_342 rfl f3 ?_
          refine ey_aload_n (cd_342 rfl) f0 ?_
          refine ey_dup (cd_342 rfl) rfl ?_
          refine ey_getf_i (z := (m 76 96)) (cd_342 rfl) mt_342 rfl rfl rfl (jhm_gi hb 96) ?_
          refine ey_iconst (cd_342 rfl) ?_
          refine ey_iadd (cd_342 rfl) ?_
          obtain ⟨m45, e46, e⟩ := jbind e
          refine ey_putf_i (cd_342 rfl) mt_342 rfl rfl rfl (jhm_pi' (k := 96) hb e46) ?_
          refine ey_goto (cd_342 rfl) rfl ?_
          cases e
          exact K (jup (jup lv 2 (jI (((10 * x2) + v43) - 48))) 3 (jI (x3 + 1))) f0 (jup_pi (lv := (jup lv 2 (jI (((10 * x2) + v43) - 48)))) (j := 2) (v := jI (x3 + 1)) (z := (((10 * x2) + v43) - 48)) rfl) rfl
theorem jk_342_l16 {L : Nat} {xs : Nat → Int32} {b : jH} (hb : 152 ≤ b.1) (h6 : b.1 ≤ 1000000) {x2 : Int} {x3 : Int} {m : jM} {x : (jM ⊕ (Int × jM))} {r : mm_R} (e : jd_342_l16 x2 x3 m = some x) (K : (jsm (fun y => (∀ lv : jL, lv 0 = some (jR (some 76)) → ey (mm_xt L xs) 2 342 57 lv [] (jhm b y) r)) (fun z => (∀ lv : jL, lv 0 = some (jR (some 76)) → lv 2 = some (jI z.1) → ey (mm_xt L xs) 2 342 97 lv [] (jhm b z.2) r)) x)) : ∀ lv : jL, lv 0 = some (jR (some 76)) → lv 2 = some (jI x2) → lv 3 = some (jI x3) → ey (mm_xt L xs) 2 342 16 lv [] (jhm b m) r := by
  unfold jd_342_l16 at e
  exact jlp_ok2 (P := fun s => ∀ lv : jL, lv 0 = some (jR (some 76)) → lv 2 = some (jI s.1) → lv 3 = some (jI s.2.1) → ey (mm_xt L xs) 2 342 16 lv [] (jhm b s.2.2) r) (Q := fun x => (jsm (fun y => (∀ lv : jL, lv 0 = some (jR (some 76)) → ey (mm_xt L xs) 2 342 57 lv [] (jhm b y) r)) (fun z => (∀ lv : jL, lv 0 = some (jR (some 76)) → lv 2 = some (jI z.1) → ey (mm_xt L xs) 2 342 97 lv [] (jhm b z.2) r)) x)) (fun s q hq hk => jk_342_s16 hb h6 hq hk) jfu _ x e K
set_option maxRecDepth 100000 in
theorem ok_342 {L : Nat} {xs : Nat → Int32} {b : jH} (hb : 152 ≤ b.1) (h6 : b.1 ≤ 1000000)  {m : jM} {o : (Int × jM)} (e : jd_342  m = some o) : mm_Runs (mm_xt L xs) 3 342 ([jR (some 76)].map jcv) (jaH (jhm b m)) (.inl (some (jcv (jI o.1)), jaH (jhm b o.2))) := by
  refine ey_run0 _ mt_342 (jsl_s rfl) ?_
  unfold jd_342 at e
  refine ey_aload_n (cd_342 rfl) rfl ?_
  obtain ⟨q1, e2, e⟩ := jbind e
  refine ey_cv (s0 := [jR (some 76)]) (s1 := []) (st' := [jI q1.1]) (cd_342 rfl) mt_342 mt_333 rfl rfl rfl (jhm_is hb) rfl (jsml_s rfl) rfl (mm_Runs.up (d := 1) (by decide) (ok_333 hb h6 e2)) ?_
  refine ey_istore_n (cd_342 rfl) mt_342 rfl ?_
  refine ey_iload_n (cd_342 rfl) rfl ?_
  refine ey_cs (s0 := [jI q1.1]) (s1 := []) (st' := [jI (jd_339 q1.1)]) (cd_342 rfl) mt_342 mt_339 rfl (by decide) rfl rfl (jsml_s rfl) rfl (ok_339 ) ?_
  by_cases q3 : (jw (jd_339 q1.1)) = 0
  · rw [if_pos q3] at e
    refine ey_zeq (cd_342 rfl) rfl rfl q3 ?_
    refine ey_iload_n (cd_342 rfl) rfl ?_
    refine ey_bipush (cd_342 rfl) (by decide) ?_
    by_cases q4 : (jw q1.1) = 45
    · rw [if_pos q4] at e
      refine ey_ceq (cd_342 rfl) rfl rfl (show jw 45 = 45 from by decide) q4 ?_
      exact jk_342_b117 hb h6 e (jup (jlf (jla 0 [jR (some 76)])) 1 (jI q1.1)) (jup_pr (lv := (jlf (jla 0 [jR (some 76)]))) (j := 0) (v := jI q1.1) (z := (some 76)) rfl) rfl
    · rw [if_neg q4] at e
      refine ey_neq (cd_342 rfl) rfl rfl (show jw 45 = 45 from by decide) q4 ?_
      refine ey_iload_n (cd_342 rfl) rfl ?_
      refine ey_bipush (cd_342 rfl) (by decide) ?_
      by_cases q14 : (jw q1.1) = 40
      · rw [if_pos q14] at e
        refine ey_nne (cd_342 rfl) rfl rfl (show jw 40 = 40 from by decide) (fun w => w q14) ?_
        exact jk_342_b117 hb h6 e (jup (jlf (jla 0 [jR (some 76)])) 1 (jI q1.1)) (jup_pr (lv := (jlf (jla 0 [jR (some 76)]))) (j := 0) (v := jI q1.1) (z := (some 76)) rfl) rfl
      · rw [if_neg q14] at e
        refine ey_cne (cd_342 rfl) rfl rfl (show jw 40 = 40 from by decide) q14 ?_
        refine ey_iload_n (cd_342 rfl) rfl ?_
        refine ey_cs (s0 := [jI q1.1]) (s1 := []) (st' := [jI (jd_340 q1.1)]) (cd_342 rfl) mt_342 mt_340 rfl (by decide) rfl rfl (jsml_s rfl) rfl (mm_Runs.up (d := 1) (by decide) (ok_340 )) ?_
        refine ey_istore_n (cd_342 rfl) mt_342 rfl ?_
        refine ey_iload_n (cd_342 rfl) rfl ?_
        refine ey_iconst (cd_342 rfl) ?_
        by_cases q15 : (jw (jd_340 q1.1)) = (-1)
        · rw [if_pos q15] at e
          refine ey_nne (cd_342 rfl) rfl rfl (show jw (-1) = (-1) from by decide) (fun w => w q15) ?_
          refine ey_aload_n (cd_342 rfl) (jup_o rfl (jup_pr (lv := (jlf (jla 0 [jR (some 76)]))) (j := 0) (v := jI q1.1) (z := (some 76)) rfl)) ?_
          obtain ⟨m16, e17, e⟩ := jbind e
          refine ey_cv (s0 := [jR (some 76)]) (s1 := []) (st' := []) (cd_342 rfl) mt_342 mt_334 rfl rfl rfl (jhm_is hb) rfl (jsml_s rfl) rfl (mm_Runs.up (d := 1) (by decide) (ok_334 hb h6 e17)) ?_
          refine ey_iconst (cd_342 rfl) ?_
          cases e
          exact ey_retz (cd_342 rfl) mt_342 rfl (Or.inr rfl)
        · rw [if_neg q15] at e
          refine ey_cne (cd_342 rfl) rfl rfl (show jw (-1) = (-1) from by decide) q15 ?_
          refine ey_aload_n (cd_342 rfl) (jup_o rfl (jup_pr (lv := (jlf (jla 0 [jR (some 76)]))) (j := 0) (v := jI q1.1) (z := (some 76)) rfl)) ?_
          refine ey_dup (cd_342 rfl) rfl ?_
          refine ey_getf_i (z := (q1.2 76 96)) (cd_342 rfl) mt_342 rfl rfl rfl (jhm_gi hb 96) ?_
          refine ey_iconst (cd_342 rfl) ?_
          refine ey_iadd (cd_342 rfl) ?_
          obtain ⟨m18, e19, e⟩ := jbind e
          refine ey_putf_i (cd_342 rfl) mt_342 rfl rfl rfl (jhm_pi' (k := 96) hb e19) ?_
          refine ey_iload_n (cd_342 rfl) rfl ?_
          refine ey_bipush (cd_342 rfl) (by decide) ?_
          by_cases q20 : 7 < (jw (jd_340 q1.1))
          · rw [if_pos q20] at e
            refine ey_cgt (cd_342 rfl) rfl rfl (show jw 7 = 7 from by decide) q20 ?_
            refine ey_aload_n (cd_342 rfl) (jup_o rfl (jup_pr (lv := (jlf (jla 0 [jR (some 76)]))) (j := 0) (v := jI q1.1) (z := (some 76)) rfl)) ?_
            obtain ⟨q21, e22, e⟩ := jbind e
            refine ey_cv (s0 := [jR (some 76)]) (s1 := []) (st' := [jI q21.1]) (cd_342 rfl) mt_342 mt_333 rfl rfl rfl (jhm_is hb) rfl (jsml_s rfl) rfl (mm_Runs.up (d := 1) (by decide) (ok_333 hb h6 e22)) ?_
            refine ey_bipush (cd_342 rfl) (by decide) ?_
            by_cases q23 : (jw q21.1) = 40
            · rw [if_pos q23] at e
              refine ey_ceq (cd_342 rfl) rfl rfl (show jw 40 = 40 from by decide) q23 ?_
              refine ey_aload_n (cd_342 rfl) (jup_o rfl (jup_pr (lv := (jlf (jla 0 [jR (some 76)]))) (j := 0) (v := jI q1.1) (z := (some 76)) rfl)) ?_
              obtain ⟨m24, e25, e⟩ := jbind e
              refine ey_cv (s0 := [jR (some 76)]) (s1 := []) (st' := []) (cd_342 rfl) mt_342 mt_341 rfl rfl rfl (jhm_is hb) rfl (jsml_s rfl) rfl (ok_341 hb h6 e25) ?_
              refine ey_aload_n (cd_342 rfl) (jup_o rfl (jup_pr (lv := (jlf (jla 0 [jR (some 76)]))) (j := 0) (v := jI q1.1) (z := (some 76)) rfl)) ?_
              refine ey_getf_i (z := (m24 76 97)) (cd_342 rfl) mt_342 rfl rfl rfl (jhm_gi hb 97) ?_
              refine ey_iconst (cd_342 rfl) ?_
              by_cases q26 : (jw (m24 76 97)) = (-1)
              · rw [if_pos q26] at e
                refine ey_ceq (cd_342 rfl) rfl rfl (show jw (-1) = (-1) from by decide) q26 ?_
                refine ey_aload_n (cd_342 rfl) (jup_o rfl (jup_pr (lv := (jlf (jla 0 [jR (some 76)]))) (j := 0) (v := jI q1.1) (z := (some 76)) rfl)) ?_
                refine ey_dup (cd_342 rfl) rfl ?_
                refine ey_getf_i (z := (m24 76 96)) (cd_342 rfl) mt_342 rfl rfl rfl (jhm_gi hb 96) ?_
                refine ey_iconst (cd_342 rfl) ?_
                refine ey_iadd (cd_342 rfl) ?_
                obtain ⟨m27, e28, e⟩ := jbind e
                refine ey_putf_i (cd_342 rfl) mt_342 rfl rfl rfl (jhm_pi' (k := 96) hb e28) ?_
                refine ey_aload_n (cd_342 rfl) (jup_o rfl (jup_pr (lv := (jlf (jla 0 [jR (some 76)]))) (j := 0) (v := jI q1.1) (z := (some 76)) rfl)) ?_
                refine ey_iload_n (cd_342 rfl) rfl ?_
                refine ey_iload_n (cd_342 rfl) rfl ?_
                refine ey_bipush (cd_342 rfl) (by decide) ?_
                have K31 : ∀ lv : jL, ey (mm_xt L xs) 2 342 253 lv [jI (if (jw (jd_340 q1.1)) = 17 then 3 else 2), jI (jd_340 q1.1), jR (some 76)] (jhm b m27) (.inl (some (jcv (jI o.1)), jaH (jhm b o.2))) := by
                  intro lv 
                  obtain ⟨m29, e30, e⟩ := jbind e
                  refine ey_cv (s0 := [jI (if (jw (jd_340 q1.1)) = 17 then 3 else 2), jI (jd_340 q1.1), jR (some 76)]) (s1 := []) (st' := []) (cd_342 rfl) mt_342 mt_338 rfl rfl rfl (jhm_is hb) rfl (jsml_s rfl) rfl (mm_Runs.up (d := 1) (by decide) (ok_338 hb h6 e30)) ?_
                  refine ey_iconst (cd_342 rfl) ?_
                  cases e
                  exact ey_retz (cd_342 rfl) mt_342 rfl (Or.inl rfl)
                by_cases q32 : (jw (jd_340 q1.1)) = 17
                · refine ey_nne (cd_342 rfl) rfl rfl (show jw 17 = 17 from by decide) (fun w => w q32) ?_
                  refine ey_iconst (cd_342 rfl) ?_
                  refine ey_goto (cd_342 rfl) rfl ?_
                  exact ey_rs (s0 := [jI 3, jI (jd_340 q1.1), jR (some 76)]) (s1 := [jI (if (jw (jd_340 q1.1)) = 17 then 3 else 2), jI (jd_340 q1.1), jR (some 76)]) (by rw [show ((if (jw (jd_340 q1.1)) = 17 then 3 else 2) : Int) = 3 from (if_pos q32)]) (K31 (jup (jup (jlf (jla 0 [jR (some 76)])) 1 (jI q1.1)) 2 (jI (jd_340 q1.1))) )
                · refine ey_cne (cd_342 rfl) rfl rfl (show jw 17 = 17 from by decide) q32 ?_
                  refine ey_iconst (cd_342 rfl) ?_
                  exact ey_rs (s0 := [jI 2, jI (jd_340 q1.1), jR (some 76)]) (s1 := [jI (if (jw (jd_340 q1.1)) = 17 then 3 else 2), jI (jd_340 q1.1), jR (some 76)]) (by rw [show ((if (jw (jd_340 q1.1)) = 17 then 3 else 2) : Int) = 2 from (if_neg q32)]) (K31 (jup (jup (jlf (jla 0 [jR (some 76)])) 1 (jI q1.1)) 2 (jI (jd_340 q1.1))) )
              · rw [if_neg q26] at e
                refine ey_neq (cd_342 rfl) rfl rfl (show jw (-1) = (-1) from by decide) q26 ?_
                refine ey_iconst (cd_342 rfl) ?_
                cases e
                exact ey_retz (cd_342 rfl) mt_342 rfl (Or.inr rfl)
            · rw [if_neg q23] at e
              refine ey_neq (cd_342 rfl) rfl rfl (show jw 40 = 40 from by decide) q23 ?_
              refine ey_aload_n (cd_342 rfl) (jup_o rfl (jup_pr (lv := (jlf (jla 0 [jR (some 76)]))) (j := 0) (v := jI q1.1) (z := (some 76)) rfl)) ?_
              obtain ⟨m33, e34, e⟩ := jbind e
              refine ey_cv (s0 := [jR (some 76)]) (s1 := []) (st' := []) (cd_342 rfl) mt_342 mt_334 rfl rfl rfl (jhm_is hb) rfl (jsml_s rfl) rfl (mm_Runs.up (d := 1) (by decide) (ok_334 hb h6 e34)) ?_
              refine ey_iconst (cd_342 rfl) ?_
              cases e
              exact ey_retz (cd_342 rfl) mt_342 rfl (Or.inr rfl)
          · rw [if_neg q20] at e
            refine ey_ngt (cd_342 rfl) rfl rfl (show jw 7 = 7 from by decide) q20 ?_
            refine ey_aload_n (cd_342 rfl) (jup_o rfl (jup_pr (lv := (jlf (jla 0 [jR (some 76)]))) (j := 0) (v := jI q1.1) (z := (some 76)) rfl)) ?_
            refine ey_iload_n (cd_342 rfl) rfl ?_
            refine ey_iconst (cd_342 rfl) ?_
            obtain ⟨m35, e36, e⟩ := jbind e
            refine ey_cv (s0 := [jI 0, jI (jd_340 q1.1), jR (some 76)]) (s1 := []) (st' := []) (cd_342 rfl) mt_342 mt_335 rfl rfl rfl (jhm_is hb) rfl (jsml_s rfl) rfl (mm_Runs.up (d := 1) (by decide) (ok_335 hb h6 e36)) ?_
            refine ey_iconst (cd_342 rfl) ?_
            cases e
            exact ey_retz (cd_342 rfl) mt_342 rfl (Or.inr rfl)
  · rw [if_neg q3] at e
    refine ey_yeq (cd_342 rfl) rfl rfl q3 ?_
    refine ey_iconst (cd_342 rfl) ?_
    refine ey_istore_n (cd_342 rfl) mt_342 rfl ?_
    refine ey_iconst (cd_342 rfl) ?_
    refine ey_istore_n (cd_342 rfl) mt_342 rfl ?_
    obtain ⟨x47, e48, e⟩ := jbind e
    refine jk_342_l16 hb h6 e48 ?_ (jup (jup (jup (jlf (jla 0 [jR (some 76)])) 1 (jI q1.1)) 2 (jI 0)) 3 (jI 0)) (jup_o rfl (jup_o rfl (jup_pr (lv := (jlf (jla 0 [jR (some 76)]))) (j := 0) (v := jI q1.1) (z := (some 76)) rfl))) (jup_pi (lv := (jup (jup (jlf (jla 0 [jR (some 76)])) 1 (jI q1.1)) 2 (jI 0))) (j := 2) (v := jI 0) (z := 0) rfl) rfl
    cases x47 with
    | inl y49 =>
      replace e : (((jd_334 y49).bind fun m51 => some (1, m51)) : Option (Int × jM)) = some o := e
      intro lv g0
      refine ey_aload_n (cd_342 rfl) g0 ?_
      obtain ⟨m51, e52, e⟩ := jbind e
      refine ey_cv (s0 := [jR (some 76)]) (s1 := []) (st' := []) (cd_342 rfl) mt_342 mt_334 rfl rfl rfl (jhm_is hb) rfl (jsml_s rfl) rfl (mm_Runs.up (d := 1) (by decide) (ok_334 hb h6 e52)) ?_
      refine ey_iconst (cd_342 rfl) ?_
      cases e
      exact ey_retz (cd_342 rfl) mt_342 rfl (Or.inr rfl)
    | inr y50 =>
      replace e : (((jd_335 0 y50.1 y50.2).bind fun m53 => some (1, m53)) : Option (Int × jM)) = some o := e
      intro lv g0 g2
      refine ey_aload_n (cd_342 rfl) g0 ?_
      refine ey_iconst (cd_342 rfl) ?_
      refine ey_iload_n (cd_342 rfl) g2 ?_
      obtain ⟨m53, e54, e⟩ := jbind e
      refine ey_cv (s0 := [jI y50.1, jI 0, jR (some 76)]) (s1 := []) (st' := []) (cd_342 rfl) mt_342 mt_335 rfl rfl rfl (jhm_is hb) rfl (jsml_s rfl) rfl (mm_Runs.up (d := 1) (by decide) (ok_335 hb h6 e54)) ?_
      refine ey_iconst (cd_342 rfl) ?_
      cases e
      exact ey_retz (cd_342 rfl) mt_342 rfl (Or.inr rfl)
theorem cd_343 {pc : Nat} {i : Instr × Nat} (h : mm_lk mm_c343 pc = some i) : mm_cd 343 pc = some i := h
theorem mt_343 : mm_MT 343 = (12, 4, some .boolean, 0, 0, []) := rfl
set_option maxRecDepth 100000 in
theorem jk_343_b17 {L : Nat} {xs : Nat → Int32} {b : jH} (hb : 152 ≤ b.1) (h6 : b.1 ≤ 1000000) {x1 : Int} {m : jM} {o : (Int × jM)} (e : jd_343_b17 x1 m = some o) : ∀ lv : jL, lv 0 = some (jR (some 76)) → lv 1 = some (jI x1) → ey (mm_xt L xs) 2 343 17 lv [] (jhm b m) (.inl (some (jcv (jI o.1)), jaH (jhm b o.2))) := by
  intro lv f0 f1
  unfold jd_343_b17 at e
  refine ey_aload_n (cd_343 rfl) f0 ?_
  refine ey_iconst (cd_343 rfl) ?_
  obtain ⟨m4, e5, e⟩ := jbind e
  refine ey_cv (s0 := [jI 1, jR (some 76)]) (s1 := []) (st' := []) (cd_343 rfl) mt_343 mt_337 rfl rfl rfl (jhm_is hb) rfl (jsml_s rfl) rfl (ok_337 hb h6 e5) ?_
  refine ey_aload_n (cd_343 rfl) f0 ?_
  refine ey_iload_n (cd_343 rfl) f1 ?_
  refine ey_bipush (cd_343 rfl) (by decide) ?_
  have K10 : ∀ lv : jL, lv 0 = some (jR (some 76)) → ey (mm_xt L xs) 2 343 36 lv [jI (if (jw x1) = 43 then 9 else 10), jR (some 76)] (jhm b m4) (.inl (some (jcv (jI o.1)), jaH (jhm b o.2))) := by
    intro lv g0
    refine ey_iconst (cd_343 rfl) ?_
    obtain ⟨m6, e7, e⟩ := jbind e
    refine ey_cv (s0 := [jI 0, jI (if (jw x1) = 43 then 9 else 10), jR (some 76)]) (s1 := []) (st' := []) (cd_343 rfl) mt_343 mt_338 rfl rfl rfl (jhm_is hb) rfl (jsml_s rfl) rfl (mm_Runs.up (d := 1) (by decide) (ok_338 hb h6 e7)) ?_
    refine ey_aload_n (cd_343 rfl) g0 ?_
    refine ey_dup (cd_343 rfl) rfl ?_
    refine ey_getf_i (z := (m6 76 96)) (cd_343 rfl) mt_343 rfl rfl rfl (jhm_gi hb 96) ?_
    refine ey_iconst (cd_343 rfl) ?_
    refine ey_iadd (cd_343 rfl) ?_
    obtain ⟨m8, e9, e⟩ := jbind e
    refine ey_putf_i (cd_343 rfl) mt_343 rfl rfl rfl (jhm_pi' (k := 96) hb e9) ?_
    refine ey_iconst (cd_343 rfl) ?_
    cases e
    exact ey_retz (cd_343 rfl) mt_343 rfl (Or.inr rfl)
  by_cases q11 : (jw x1) = 43
  · refine ey_nne (cd_343 rfl) rfl rfl (show jw 43 = 43 from by decide) (fun w => w q11) ?_
    refine ey_bipush (cd_343 rfl) (by decide) ?_
    refine ey_goto (cd_343 rfl) rfl ?_
    exact ey_rs (s0 := [jI 9, jR (some 76)]) (s1 := [jI (if (jw x1) = 43 then 9 else 10), jR (some 76)]) (by rw [show ((if (jw x1) = 43 then 9 else 10) : Int) = 9 from (if_pos q11)]) (K10 lv f0)
  · refine ey_cne (cd_343 rfl) rfl rfl (show jw 43 = 43 from by decide) q11 ?_
    refine ey_bipush (cd_343 rfl) (by decide) ?_
    exact ey_rs (s0 := [jI 10, jR (some 76)]) (s1 := [jI (if (jw x1) = 43 then 9 else 10), jR (some 76)]) (by rw [show ((if (jw x1) = 43 then 9 else 10) : Int) = 10 from (if_neg q11)]) (K10 lv f0)
set_option maxRecDepth 100000 in
theorem jk_343_b100 {L : Nat} {xs : Nat → Int32} {b : jH} (hb : 152 ≤ b.1) (h6 : b.1 ≤ 1000000) {y0 : Int} {m : jM} {o : (Int × jM)} (e : jd_343_b100 y0 m = some o) : ∀ lv : jL, lv 0 = some (jR (some 76)) → ey (mm_xt L xs) 2 343 100 lv [jI y0, jR (some 76)] (jhm b m) (.inl (some (jcv (jI o.1)), jaH (jhm b o.2))) := by
  intro lv f0
  unfold jd_343_b100 at e
  refine ey_iconst (cd_343 rfl) ?_
  obtain ⟨m16, e17, e⟩ := jbind e
  refine ey_cv (s0 := [jI 0, jI y0, jR (some 76)]) (s1 := []) (st' := []) (cd_343 rfl) mt_343 mt_338 rfl rfl rfl (jhm_is hb) rfl (jsml_s rfl) rfl (mm_Runs.up (d := 1) (by decide) (ok_338 hb h6 e17)) ?_
  refine ey_aload_n (cd_343 rfl) f0 ?_
  refine ey_dup (cd_343 rfl) rfl ?_
  refine ey_getf_i (z := (m16 76 96)) (cd_343 rfl) mt_343 rfl rfl rfl (jhm_gi hb 96) ?_
  refine ey_iconst (cd_343 rfl) ?_
  refine ey_iadd (cd_343 rfl) ?_
  obtain ⟨m18, e19, e⟩ := jbind e
  refine ey_putf_i (cd_343 rfl) mt_343 rfl rfl rfl (jhm_pi' (k := 96) hb e19) ?_
  refine ey_iconst (cd_343 rfl) ?_
  cases e
  exact ey_retz (cd_343 rfl) mt_343 rfl (Or.inr rfl)
set_option maxRecDepth 100000 in
theorem jk_343_b70 {L : Nat} {xs : Nat → Int32} {b : jH} (hb : 152 ≤ b.1) (h6 : b.1 ≤ 1000000) {x1 : Int} {m : jM} {o : (Int × jM)} (e : jd_343_b70 x1 m = some o) : ∀ lv : jL, lv 0 = some (jR (some 76)) → lv 1 = some (jI x1) → ey (mm_xt L xs) 2 343 70 lv [] (jhm b m) (.inl (some (jcv (jI o.1)), jaH (jhm b o.2))) := by
  intro lv f0 f1
  unfold jd_343_b70 at e
  refine ey_aload_n (cd_343 rfl) f0 ?_
  refine ey_iconst (cd_343 rfl) ?_
  obtain ⟨m14, e15, e⟩ := jbind e
  refine ey_cv (s0 := [jI 2, jR (some 76)]) (s1 := []) (st' := []) (cd_343 rfl) mt_343 mt_337 rfl rfl rfl (jhm_is hb) rfl (jsml_s rfl) rfl (ok_337 hb h6 e15) ?_
  refine ey_aload_n (cd_343 rfl) f0 ?_
  refine ey_iload_n (cd_343 rfl) f1 ?_
  refine ey_bipush (cd_343 rfl) (by decide) ?_
  have K20 : ∀ lv : jL, lv 0 = some (jR (some 76)) → ey (mm_xt L xs) 2 343 100 lv [jI (if (jw x1) = 42 then 11 else (if (jw x1) = 47 then 12 else 13)), jR (some 76)] (jhm b m14) (.inl (some (jcv (jI o.1)), jaH (jhm b o.2))) := by
    intro lv g0
    exact jk_343_b100 hb h6 e lv g0
  by_cases q21 : (jw x1) = 42
  · refine ey_nne (cd_343 rfl) rfl rfl (show jw 42 = 42 from by decide) (fun w => w q21) ?_
    refine ey_bipush (cd_343 rfl) (by decide) ?_
    refine ey_goto (cd_343 rfl) rfl ?_
    exact ey_rs (s0 := [jI 11, jR (some 76)]) (s1 := [jI (if (jw x1) = 42 then 11 else (if (jw x1) = 47 then 12 else 13)), jR (some 76)]) (by rw [show ((if (jw x1) = 42 then 11 else (if (jw x1) = 47 then 12 else 13)) : Int) = 11 from (if_pos q21)]) (K20 lv f0)
  · refine ey_cne (cd_343 rfl) rfl rfl (show jw 42 = 42 from by decide) q21 ?_
    refine ey_iload_n (cd_343 rfl) f1 ?_
    refine ey_bipush (cd_343 rfl) (by decide) ?_
    by_cases q22 : (jw x1) = 47
    · refine ey_nne (cd_343 rfl) rfl rfl (show jw 47 = 47 from by decide) (fun w => w q22) ?_
      refine ey_bipush (cd_343 rfl) (by decide) ?_
      refine ey_goto (cd_343 rfl) rfl ?_
      exact ey_rs (s0 := [jI 12, jR (some 76)]) (s1 := [jI (if (jw x1) = 42 then 11 else (if (jw x1) = 47 then 12 else 13)), jR (some 76)]) (by rw [show ((if (jw x1) = 42 then 11 else (if (jw x1) = 47 then 12 else 13)) : Int) = 12 from ((if_neg q21).trans (if_pos q22))]) (K20 lv f0)
    · refine ey_cne (cd_343 rfl) rfl rfl (show jw 47 = 47 from by decide) q22 ?_
      refine ey_bipush (cd_343 rfl) (by decide) ?_
      exact ey_rs (s0 := [jI 13, jR (some 76)]) (s1 := [jI (if (jw x1) = 42 then 11 else (if (jw x1) = 47 then 12 else 13)), jR (some 76)]) (by rw [show ((if (jw x1) = 42 then 11 else (if (jw x1) = 47 then 12 else 13)) : Int) = 13 from ((if_neg q21).trans (if_neg q22))]) (K20 lv f0)
set_option maxRecDepth 100000 in
theorem jk_343_b159 {L : Nat} {xs : Nat → Int32} {b : jH} (hb : 152 ≤ b.1) (h6 : b.1 ≤ 1000000)  {m : jM} {o : (Int × jM)} (e : jd_343_b159  m = some o) : ∀ lv : jL, lv 0 = some (jR (some 76)) → ey (mm_xt L xs) 2 343 159 lv [] (jhm b m) (.inl (some (jcv (jI o.1)), jaH (jhm b o.2))) := by
  intro lv f0
  unfold jd_343_b159 at e
  refine ey_aload_n (cd_343 rfl) f0 ?_
  refine ey_iconst (cd_343 rfl) ?_
  obtain ⟨m31, e32, e⟩ := jbind e
  refine ey_putf_z (cd_343 rfl) mt_343 rfl rfl rfl (Or.inr rfl) (jhm_pi' (k := 103) hb e32) ?_
  refine ey_iconst (cd_343 rfl) ?_
  cases e
  exact ey_retz (cd_343 rfl) mt_343 rfl (Or.inl rfl)
set_option maxRecDepth 100000 in
theorem jk_343_b265 {L : Nat} {xs : Nat → Int32} {b : jH} (hb : 152 ≤ b.1) (h6 : b.1 ≤ 1000000)  {m : jM} {o : (Int × jM)} (e : jd_343_b265  m = some o) : ∀ lv : jL, ey (mm_xt L xs) 2 343 265 lv [] (jhm b m) (.inl (some (jcv (jI o.1)), jaH (jhm b o.2))) := by
  intro lv 
  unfold jd_343_b265 at e
  refine ey_iconst (cd_343 rfl) ?_
  cases e
  exact ey_retz (cd_343 rfl) mt_343 rfl (Or.inl rfl)
set_option maxRecDepth 100000 in
theorem ok_343 {L : Nat} {xs : Nat → Int32} {b : jH} (hb : 152 ≤ b.1) (h6 : b.1 ≤ 1000000)  {m : jM} {o : (Int × jM)} (e : jd_343  m = some o) : mm_Runs (mm_xt L xs) 3 343 ([jR (some 76)].map jcv) (jaH (jhm b m)) (.inl (some (jcv (jI o.1)), jaH (jhm b o.2))) := by
  refine ey_run0 _ mt_343 (jsl_s rfl) ?_
  unfold jd_343 at e
  refine ey_aload_n (cd_343 rfl) rfl ?_
  obtain ⟨q1, e2, e⟩ := jbind e
  refine ey_cv (s0 := [jR (some 76)]) (s1 := []) (st' := [jI q1.1]) (cd_343 rfl) mt_343 mt_333 rfl rfl rfl (jhm_is hb) rfl (jsml_s rfl) rfl (mm_Runs.up (d := 1) (by decide) (ok_333 hb h6 e2)) ?_
  refine ey_istore_n (cd_343 rfl) mt_343 rfl ?_
  refine ey_iload_n (cd_343 rfl) rfl ?_
  refine ey_bipush (cd_343 rfl) (by decide) ?_
  by_cases q3 : (jw q1.1) = 43
  · rw [if_pos q3] at e
    refine ey_ceq (cd_343 rfl) rfl rfl (show jw 43 = 43 from by decide) q3 ?_
    exact jk_343_b17 hb h6 e (jup (jlf (jla 0 [jR (some 76)])) 1 (jI q1.1)) (jup_pr (lv := (jlf (jla 0 [jR (some 76)]))) (j := 0) (v := jI q1.1) (z := (some 76)) rfl) rfl
  · rw [if_neg q3] at e
    refine ey_neq (cd_343 rfl) rfl rfl (show jw 43 = 43 from by decide) q3 ?_
    refine ey_iload_n (cd_343 rfl) rfl ?_
    refine ey_bipush (cd_343 rfl) (by decide) ?_
    by_cases q12 : (jw q1.1) = 45
    · rw [if_pos q12] at e
      refine ey_nne (cd_343 rfl) rfl rfl (show jw 45 = 45 from by decide) (fun w => w q12) ?_
      exact jk_343_b17 hb h6 e (jup (jlf (jla 0 [jR (some 76)])) 1 (jI q1.1)) (jup_pr (lv := (jlf (jla 0 [jR (some 76)]))) (j := 0) (v := jI q1.1) (z := (some 76)) rfl) rfl
    · rw [if_neg q12] at e
      refine ey_cne (cd_343 rfl) rfl rfl (show jw 45 = 45 from by decide) q12 ?_
      refine ey_iload_n (cd_343 rfl) rfl ?_
      refine ey_bipush (cd_343 rfl) (by decide) ?_
      by_cases q13 : (jw q1.1) = 42
      · rw [if_pos q13] at e
        refine ey_ceq (cd_343 rfl) rfl rfl (show jw 42 = 42 from by decide) q13 ?_
        exact jk_343_b70 hb h6 e (jup (jlf (jla 0 [jR (some 76)])) 1 (jI q1.1)) (jup_pr (lv := (jlf (jla 0 [jR (some 76)]))) (j := 0) (v := jI q1.1) (z := (some 76)) rfl) rfl
      · rw [if_neg q13] at e
        refine ey_neq (cd_343 rfl) rfl rfl (show jw 42 = 42 from by decide) q13 ?_
        refine ey_iload_n (cd_343 rfl) rfl ?_
        refine ey_bipush (cd_343 rfl) (by decide) ?_
        by_cases q23 : (jw q1.1) = 47
        · rw [if_pos q23] at e
          refine ey_ceq (cd_343 rfl) rfl rfl (show jw 47 = 47 from by decide) q23 ?_
          exact jk_343_b70 hb h6 e (jup (jlf (jla 0 [jR (some 76)])) 1 (jI q1.1)) (jup_pr (lv := (jlf (jla 0 [jR (some 76)]))) (j := 0) (v := jI q1.1) (z := (some 76)) rfl) rfl
        · rw [if_neg q23] at e
          refine ey_neq (cd_343 rfl) rfl rfl (show jw 47 = 47 from by decide) q23 ?_
          refine ey_iload_n (cd_343 rfl) rfl ?_
          refine ey_bipush (cd_343 rfl) (by decide) ?_
          by_cases q24 : (jw q1.1) = 37
          · rw [if_pos q24] at e
            refine ey_nne (cd_343 rfl) rfl rfl (show jw 37 = 37 from by decide) (fun w => w q24) ?_
            exact jk_343_b70 hb h6 e (jup (jlf (jla 0 [jR (some 76)])) 1 (jI q1.1)) (jup_pr (lv := (jlf (jla 0 [jR (some 76)]))) (j := 0) (v := jI q1.1) (z := (some 76)) rfl) rfl
          · rw [if_neg q24] at e
            refine ey_cne (cd_343 rfl) rfl rfl (show jw 37 = 37 from by decide) q24 ?_
            refine ey_aload_n (cd_343 rfl) (jup_pr (lv := (jlf (jla 0 [jR (some 76)]))) (j := 0) (v := jI q1.1) (z := (some 76)) rfl) ?_
            refine ey_iconst (cd_343 rfl) ?_
            obtain ⟨m25, e26, e⟩ := jbind e
            refine ey_cv (s0 := [jI 1, jR (some 76)]) (s1 := []) (st' := []) (cd_343 rfl) mt_343 mt_337 rfl rfl rfl (jhm_is hb) rfl (jsml_s rfl) rfl (ok_337 hb h6 e26) ?_
            refine ey_aload_n (cd_343 rfl) (jup_pr (lv := (jlf (jla 0 [jR (some 76)]))) (j := 0) (v := jI q1.1) (z := (some 76)) rfl) ?_
            refine ey_getf_i (z := (m25 76 98)) (cd_343 rfl) mt_343 rfl rfl rfl (jhm_gi hb 98) ?_
            have K62 : ∀ lv : jL, lv 0 = some (jR (some 76)) → lv 1 = some (jI q1.1) → ey (mm_xt L xs) 2 343 138 lv [jI (if (jw (m25 76 98)) ≤ 0 then (-1) else ((m25 76 98) - 1))] (jhm b m25) (.inl (some (jcv (jI o.1)), jaH (jhm b o.2))) := by
              intro lv g0 g1
              obtain ⟨z27, e28, e⟩ := jbind e
              refine ey_rs (s0 := [jI (if (jw (m25 76 98)) ≤ 0 then (-1) else ((m25 76 98) - 1))]) (s1 := [jI z27]) (by rw [show (if (jw (m25 76 98)) ≤ 0 then (-1) else ((m25 76 98) - 1)) = z27 from Option.some.inj e28]) ?_
              refine ey_istore_n (cd_343 rfl) mt_343 rfl ?_
              refine ey_iload_n (cd_343 rfl) rfl ?_
              refine ey_iconst (cd_343 rfl) ?_
              by_cases q29 : (jw z27) = (-1)
              · rw [if_pos q29] at e
                refine ey_nne (cd_343 rfl) rfl rfl (show jw (-1) = (-1) from by decide) (fun w => w q29) ?_
                refine ey_aload_n (cd_343 rfl) g0 ?_
                refine ey_getf_i (z := (m25 76 96)) (cd_343 rfl) mt_343 rfl rfl rfl (jhm_gi hb 96) ?_
                refine ey_aload_n (cd_343 rfl) g0 ?_
                refine ey_getf_i (z := (m25 76 5)) (cd_343 rfl) mt_343 rfl rfl rfl (jhm_gi hb 5) ?_
                by_cases q30 : (jw (m25 76 5)) ≤ (jw (m25 76 96))
                · rw [if_pos q30] at e
                  refine ey_cge (cd_343 rfl) rfl rfl rfl q30 ?_
                  exact jk_343_b159 hb h6 e (jup lv 2 (jI z27)) g0
                · rw [if_neg q30] at e
                  refine ey_nge (cd_343 rfl) rfl rfl rfl q30 ?_
                  refine ey_aload_n (cd_343 rfl) g0 ?_
                  obtain ⟨m33, e34, e⟩ := jbind e
                  refine ey_cv (s0 := [jR (some 76)]) (s1 := []) (st' := []) (cd_343 rfl) mt_343 mt_334 rfl rfl rfl (jhm_is hb) rfl (jsml_s rfl) rfl (mm_Runs.up (d := 1) (by decide) (ok_334 hb h6 e34)) ?_
                  exact jk_343_b159 hb h6 e (jup lv 2 (jI z27)) g0
              · rw [if_neg q29] at e
                refine ey_cne (cd_343 rfl) rfl rfl (show jw (-1) = (-1) from by decide) q29 ?_
                refine ey_aload_n (cd_343 rfl) g0 ?_
                refine ey_getf_r (cd_343 rfl) mt_343 rfl rfl rfl (jhm_gr (q := 139) hb rfl) ?_
                refine ey_iload_n (cd_343 rfl) rfl ?_
                obtain ⟨v35, e36, e⟩ := jbind e
                refine ey_iald (cd_343 rfl) (jhm_ai hb h6 (by decide) rfl e36) ?_
                refine ey_iconst (cd_343 rfl) ?_
                have K60 : ∀ lv : jL, lv 0 = some (jR (some 76)) → lv 1 = some (jI q1.1) → lv 2 = some (jI z27) → ey (mm_xt L xs) 2 343 183 lv [jI (if (jw v35) ≤ 1 then 41 else 44)] (jhm b m25) (.inl (some (jcv (jI o.1)), jaH (jhm b o.2))) := by
                  intro lv g0 g1 g2
                  obtain ⟨z37, e38, e⟩ := jbind e
                  refine ey_rs (s0 := [jI (if (jw v35) ≤ 1 then 41 else 44)]) (s1 := [jI z37]) (by rw [show (if (jw v35) ≤ 1 then 41 else 44) = z37 from Option.some.inj e38]) ?_
                  refine ey_istore_n (cd_343 rfl) mt_343 rfl ?_
                  refine ey_iload_n (cd_343 rfl) g1 ?_
                  refine ey_iload_n (cd_343 rfl) rfl ?_
                  by_cases q39 : (jw q1.1) = (jw z37)
                  · rw [if_pos q39] at e
                    refine ey_ceq (cd_343 rfl) rfl rfl rfl q39 ?_
                    refine ey_aload_n (cd_343 rfl) g0 ?_
                    refine ey_dup (cd_343 rfl) rfl ?_
                    refine ey_getf_i (z := (m25 76 96)) (cd_343 rfl) mt_343 rfl rfl rfl (jhm_gi hb 96) ?_
                    refine ey_iconst (cd_343 rfl) ?_
                    refine ey_iadd (cd_343 rfl) ?_
                    obtain ⟨m40, e41, e⟩ := jbind e
                    refine ey_putf_i (cd_343 rfl) mt_343 rfl rfl rfl (jhm_pi' (k := 96) hb e41) ?_
                    refine ey_iload_n (cd_343 rfl) rfl ?_
                    refine ey_bipush (cd_343 rfl) (by decide) ?_
                    by_cases q42 : (jw z37) = 44
                    · rw [if_pos q42] at e
                      refine ey_nne (cd_343 rfl) rfl rfl (show jw 44 = 44 from by decide) (fun w => w q42) ?_
                      refine ey_aload_n (cd_343 rfl) g0 ?_
                      refine ey_getf_r (cd_343 rfl) mt_343 rfl rfl rfl (jhm_gr (q := 139) hb rfl) ?_
                      refine ey_iload_n (cd_343 rfl) (jup_pi (lv := lv) (j := 2) (v := jI z37) (z := z27) g2) ?_
                      refine ey_dup2 (cd_343 rfl) rfl rfl ?_
                      obtain ⟨v43, e44, e⟩ := jbind e
                      refine ey_iald (cd_343 rfl) (jhm_ai hb h6 (by decide) rfl e44) ?_
                      refine ey_iconst (cd_343 rfl) ?_
                      refine ey_isub (cd_343 rfl) ?_
                      obtain ⟨m45, e46, e⟩ := jbind e
                      refine ey_iast (cd_343 rfl) (jhm_ta hb (by decide) rfl e46) ?_
                      refine ey_iconst (cd_343 rfl) ?_
                      cases e
                      exact ey_retz (cd_343 rfl) mt_343 rfl (Or.inr rfl)
                    · rw [if_neg q42] at e
                      refine ey_cne (cd_343 rfl) rfl rfl (show jw 44 = 44 from by decide) q42 ?_
                      refine ey_aload_n (cd_343 rfl) g0 ?_
                      refine ey_dup (cd_343 rfl) rfl ?_
                      refine ey_getf_i (z := (m40 76 98)) (cd_343 rfl) mt_343 rfl rfl rfl (jhm_gi hb 98) ?_
                      refine ey_iconst (cd_343 rfl) ?_
                      refine ey_isub (cd_343 rfl) ?_
                      obtain ⟨m47, e48, e⟩ := jbind e
                      refine ey_putf_i (cd_343 rfl) mt_343 rfl rfl rfl (jhm_pi' (k := 98) hb e48) ?_
                      refine ey_aload_n (cd_343 rfl) g0 ?_
                      refine ey_dup (cd_343 rfl) rfl ?_
                      refine ey_getf_i (z := (m47 76 101)) (cd_343 rfl) mt_343 rfl rfl rfl (jhm_gi hb 101) ?_
                      refine ey_iconst (cd_343 rfl) ?_
                      refine ey_isub (cd_343 rfl) ?_
                      obtain ⟨m49, e50, e⟩ := jbind e
                      refine ey_putf_i (cd_343 rfl) mt_343 rfl rfl rfl (jhm_pi' (k := 101) hb e50) ?_
                      refine ey_aload_n (cd_343 rfl) g0 ?_
                      refine ey_getf_r (cd_343 rfl) mt_343 rfl rfl rfl (jhm_gr (q := 138) hb rfl) ?_
                      refine ey_iload_n (cd_343 rfl) (jup_pi (lv := lv) (j := 2) (v := jI z37) (z := z27) g2) ?_
                      obtain ⟨v51, e52, e⟩ := jbind e
                      refine ey_iald (cd_343 rfl) (jhm_ai hb h6 (by decide) rfl e52) ?_
                      refine ey_bipush (cd_343 rfl) (by decide) ?_
                      by_cases q53 : (jw v51) = 18
                      · rw [if_pos q53] at e
                        refine ey_ceq (cd_343 rfl) rfl rfl (show jw 18 = 18 from by decide) q53 ?_
                        exact jk_343_b265 hb h6 e (jup lv 3 (jI z37)) 
                      · rw [if_neg q53] at e
                        refine ey_neq (cd_343 rfl) rfl rfl (show jw 18 = 18 from by decide) q53 ?_
                        refine ey_aload_n (cd_343 rfl) g0 ?_
                        refine ey_aload_n (cd_343 rfl) g0 ?_
                        refine ey_getf_r (cd_343 rfl) mt_343 rfl rfl rfl (jhm_gr (q := 138) hb rfl) ?_
                        refine ey_iload_n (cd_343 rfl) (jup_pi (lv := lv) (j := 2) (v := jI z37) (z := z27) g2) ?_
                        obtain ⟨v54, e55, e⟩ := jbind e
                        refine ey_iald (cd_343 rfl) (jhm_ai hb h6 (by decide) rfl e55) ?_
                        refine ey_iconst (cd_343 rfl) ?_
                        obtain ⟨m56, e57, e⟩ := jbind e
                        refine ey_cv (s0 := [jI 0, jI v54, jR (some 76)]) (s1 := []) (st' := []) (cd_343 rfl) mt_343 mt_335 rfl rfl rfl (jhm_is hb) rfl (jsml_s rfl) rfl (mm_Runs.up (d := 1) (by decide) (ok_335 hb h6 e57)) ?_
                        exact jk_343_b265 hb h6 e (jup lv 3 (jI z37)) 
                  · rw [if_neg q39] at e
                    refine ey_neq (cd_343 rfl) rfl rfl rfl q39 ?_
                    refine ey_aload_n (cd_343 rfl) g0 ?_
                    obtain ⟨m58, e59, e⟩ := jbind e
                    refine ey_cv (s0 := [jR (some 76)]) (s1 := []) (st' := []) (cd_343 rfl) mt_343 mt_334 rfl rfl rfl (jhm_is hb) rfl (jsml_s rfl) rfl (mm_Runs.up (d := 1) (by decide) (ok_334 hb h6 e59)) ?_
                    refine ey_iconst (cd_343 rfl) ?_
                    cases e
                    exact ey_retz (cd_343 rfl) mt_343 rfl (Or.inl rfl)
                by_cases q61 : (jw v35) ≤ 1
                · refine ey_cle (cd_343 rfl) rfl rfl (show jw 1 = 1 from by decide) q61 ?_
                  refine ey_bipush (cd_343 rfl) (by decide) ?_
                  exact ey_rs (s0 := [jI 41]) (s1 := [jI (if (jw v35) ≤ 1 then 41 else 44)]) (by rw [show ((if (jw v35) ≤ 1 then 41 else 44) : Int) = 41 from (if_pos q61)]) (K60 (jup lv 2 (jI z27)) g0 (jup_pi (lv := lv) (j := 1) (v := jI z27) (z := q1.1) g1) rfl)
                · refine ey_nle (cd_343 rfl) rfl rfl (show jw 1 = 1 from by decide) q61 ?_
                  refine ey_bipush (cd_343 rfl) (by decide) ?_
                  refine ey_goto (cd_343 rfl) rfl ?_
                  exact ey_rs (s0 := [jI 44]) (s1 := [jI (if (jw v35) ≤ 1 then 41 else 44)]) (by rw [show ((if (jw v35) ≤ 1 then 41 else 44) : Int) = 44 from (if_neg q61)]) (K60 (jup lv 2 (jI z27)) g0 (jup_pi (lv := lv) (j := 1) (v := jI z27) (z := q1.1) g1) rfl)
            by_cases q63 : (jw (m25 76 98)) ≤ 0
            · refine ey_zle (cd_343 rfl) rfl rfl q63 ?_
              refine ey_iconst (cd_343 rfl) ?_
              exact ey_rs (s0 := [jI (-1)]) (s1 := [jI (if (jw (m25 76 98)) ≤ 0 then (-1) else ((m25 76 98) - 1))]) (by rw [show ((if (jw (m25 76 98)) ≤ 0 then (-1) else ((m25 76 98) - 1)) : Int) = (-1) from (if_pos q63)]) (K62 (jup (jlf (jla 0 [jR (some 76)])) 1 (jI q1.1)) (jup_pr (lv := (jlf (jla 0 [jR (some 76)]))) (j := 0) (v := jI q1.1) (z := (some 76)) rfl) rfl)
            · refine ey_yle (cd_343 rfl) rfl rfl q63 ?_
              refine ey_aload_n (cd_343 rfl) (jup_pr (lv := (jlf (jla 0 [jR (some 76)]))) (j := 0) (v := jI q1.1) (z := (some 76)) rfl) ?_
              refine ey_getf_i (z := (m25 76 98)) (cd_343 rfl) mt_343 rfl rfl rfl (jhm_gi hb 98) ?_
              refine ey_iconst (cd_343 rfl) ?_
              refine ey_isub (cd_343 rfl) ?_
              refine ey_goto (cd_343 rfl) rfl ?_
              exact ey_rs (s0 := [jI ((m25 76 98) - 1)]) (s1 := [jI (if (jw (m25 76 98)) ≤ 0 then (-1) else ((m25 76 98) - 1))]) (by rw [show ((if (jw (m25 76 98)) ≤ 0 then (-1) else ((m25 76 98) - 1)) : Int) = ((m25 76 98) - 1) from (if_neg q63)]) (K62 (jup (jlf (jla 0 [jR (some 76)])) 1 (jI q1.1)) (jup_pr (lv := (jlf (jla 0 [jR (some 76)]))) (j := 0) (v := jI q1.1) (z := (some 76)) rfl) rfl)
theorem cd_344 {pc : Nat} {i : Instr × Nat} (h : mm_lk mm_c344 pc = some i) : mm_cd 344 pc = some i := h
theorem mt_344 : mm_MT 344 = (12, 2, some .int, 0, 0, []) := rfl
set_option maxRecDepth 100000 in
theorem jk_344_s59 {L : Nat} {xs : Nat → Int32} {b : jH} (hb : 152 ≤ b.1) (h6 : b.1 ≤ 1000000) {x1 : Int} {m : jM} {o : ((Int × jM) ⊕ jM)} {r : mm_R} (e : jd_344_s59 x1 m = some o) (K : jsm (fun s => (∀ lv : jL, lv 0 = some (jR (some 76)) → lv 1 = some (jI s.1) → ey (mm_xt L xs) 3 344 59 lv [] (jhm b s.2) r)) (fun x => (∀ lv : jL, lv 0 = some (jR (some 76)) → ey (mm_xt L xs) 3 344 102 lv [] (jhm b x) r)) o) : ∀ lv : jL, lv 0 = some (jR (some 76)) → lv 1 = some (jI x1) → ey (mm_xt L xs) 3 344 59 lv [] (jhm b m) r := by
  intro lv f0 f1
  unfold jd_344_s59 at e
  refine ey_aload_n (cd_344 rfl) f0 ?_
  refine ey_getf_z (z := (m 76 103 % 2)) (cd_344 rfl) mt_344 rfl rfl rfl (jhm_gb hb 103) ?_
  by_cases q16 : (jw (m 76 103 % 2)) = 0
  · rw [if_pos q16] at e
    refine ey_yne (cd_344 rfl) rfl rfl (fun w => w q16) ?_
    refine ey_aload_n (cd_344 rfl) f0 ?_
    refine ey_getf_i (z := (m 76 97)) (cd_344 rfl) mt_344 rfl rfl rfl (jhm_gi hb 97) ?_
    refine ey_iconst (cd_344 rfl) ?_
    by_cases q17 : (jw (m 76 97)) = (-1)
    · rw [if_pos q17] at e
      refine ey_nne (cd_344 rfl) rfl rfl (show jw (-1) = (-1) from by decide) (fun w => w q17) ?_
      refine ey_iload_n (cd_344 rfl) f1 ?_
      by_cases q18 : (jw x1) = 0
      · rw [if_pos q18] at e
        refine ey_zeq (cd_344 rfl) rfl rfl q18 ?_
        refine ey_aload_n (cd_344 rfl) f0 ?_
        obtain ⟨q19, e20, e⟩ := jbind e
        refine ey_cv (s0 := [jR (some 76)]) (s1 := []) (st' := [jI q19.1]) (cd_344 rfl) mt_344 mt_343 rfl rfl rfl (jhm_is hb) rfl (jsml_s rfl) rfl (ok_343 hb h6 e20) ?_
        refine ey_istore_n (cd_344 rfl) mt_344 rfl ?_
        refine ey_goto (cd_344 rfl) rfl ?_
        cases e
        exact K (jup lv 1 (jI q19.1)) (jup_pr (lv := lv) (j := 0) (v := jI q19.1) (z := (some 76)) f0) rfl
      · rw [if_neg q18] at e
        refine ey_yeq (cd_344 rfl) rfl rfl q18 ?_
        refine ey_aload_n (cd_344 rfl) f0 ?_
        obtain ⟨q21, e22, e⟩ := jbind e
        refine ey_cv (s0 := [jR (some 76)]) (s1 := []) (st' := [jI q21.1]) (cd_344 rfl) mt_344 mt_342 rfl rfl rfl (jhm_is hb) rfl (jsml_s rfl) rfl (ok_342 hb h6 e22) ?_
        have K25 : ∀ lv : jL, lv 0 = some (jR (some 76)) → ey (mm_xt L xs) 3 344 90 lv [jI (if (jw q21.1) = 0 then 1 else 0)] (jhm b q21.2) r := by
          intro lv g0
          obtain ⟨z23, e24, e⟩ := jbind e
          refine ey_rs (s0 := [jI (if (jw q21.1) = 0 then 1 else 0)]) (s1 := [jI z23]) (by rw [show (if (jw q21.1) = 0 then 1 else 0) = z23 from Option.some.inj e24]) ?_
          refine ey_istore_n (cd_344 rfl) mt_344 rfl ?_
          refine ey_goto (cd_344 rfl) rfl ?_
          cases e
          exact K (jup lv 1 (jI z23)) (jup_pr (lv := lv) (j := 0) (v := jI z23) (z := (some 76)) g0) rfl
        by_cases q26 : (jw q21.1) = 0
        · refine ey_yne (cd_344 rfl) rfl rfl (fun w => w q26) ?_
          refine ey_iconst (cd_344 rfl) ?_
          refine ey_goto (cd_344 rfl) rfl ?_
          exact ey_rs (s0 := [jI 1]) (s1 := [jI (if (jw q21.1) = 0 then 1 else 0)]) (by rw [show ((if (jw q21.1) = 0 then 1 else 0) : Int) = 1 from (if_pos q26)]) (K25 lv f0)
        · refine ey_zne (cd_344 rfl) rfl rfl q26 ?_
          refine ey_iconst (cd_344 rfl) ?_
          exact ey_rs (s0 := [jI 0]) (s1 := [jI (if (jw q21.1) = 0 then 1 else 0)]) (by rw [show ((if (jw q21.1) = 0 then 1 else 0) : Int) = 0 from (if_neg q26)]) (K25 lv f0)
    · rw [if_neg q17] at e
      refine ey_cne (cd_344 rfl) rfl rfl (show jw (-1) = (-1) from by decide) q17 ?_
      cases e
      exact K lv f0
  · rw [if_neg q16] at e
    refine ey_zne (cd_344 rfl) rfl rfl q16 ?_
    cases e
    exact K lv f0
theorem jk_344_l59 {L : Nat} {xs : Nat → Int32} {b : jH} (hb : 152 ≤ b.1) (h6 : b.1 ≤ 1000000) {x1 : Int} {m : jM} {x : jM} {r : mm_R} (e : jd_344_l59 x1 m = some x) (K : (∀ lv : jL, lv 0 = some (jR (some 76)) → ey (mm_xt L xs) 3 344 102 lv [] (jhm b x) r)) : ∀ lv : jL, lv 0 = some (jR (some 76)) → lv 1 = some (jI x1) → ey (mm_xt L xs) 3 344 59 lv [] (jhm b m) r := by
  unfold jd_344_l59 at e
  exact jlp_ok2 (P := fun s => ∀ lv : jL, lv 0 = some (jR (some 76)) → lv 1 = some (jI s.1) → ey (mm_xt L xs) 3 344 59 lv [] (jhm b s.2) r) (Q := fun x => (∀ lv : jL, lv 0 = some (jR (some 76)) → ey (mm_xt L xs) 3 344 102 lv [] (jhm b x) r)) (fun s q hq hk => jk_344_s59 hb h6 hq hk) jfu _ x e K
set_option maxRecDepth 100000 in
theorem ok_344 {L : Nat} {xs : Nat → Int32} {b : jH} (hb : 152 ≤ b.1) (h6 : b.1 ≤ 1000000)  {m : jM} {o : (Int × jM)} (e : jd_344  m = some o) : mm_Runs (mm_xt L xs) 4 344 ([jR (some 76)].map jcv) (jaH (jhm b m)) (.inl (some (jcv (jI o.1)), jaH (jhm b o.2))) := by
  refine ey_run0 _ mt_344 (jsl_s rfl) ?_
  unfold jd_344 at e
  refine ey_aload_n (cd_344 rfl) rfl ?_
  refine ey_aload_n (cd_344 rfl) rfl ?_
  refine ey_getf_i (z := (m 76 92)) (cd_344 rfl) mt_344 rfl rfl rfl (jhm_gi hb 92) ?_
  refine ey_bipush (cd_344 rfl) (by decide) ?_
  have K36 : ∀ lv : jL, lv 0 = some (jR (some 76)) → ey (mm_xt L xs) 3 344 15 lv [jI (if (jw (m 76 92)) = 8 then 1 else 0), jR (some 76)] (jhm b m) (.inl (some (jcv (jI o.1)), jaH (jhm b o.2))) := by
    intro lv g0
    obtain ⟨m1, e2, e⟩ := jbind e
    refine ey_putf_i (cd_344 rfl) mt_344 rfl rfl rfl (jhm_pi' (k := 0) hb e2) ?_
    refine ey_aload_n (cd_344 rfl) g0 ?_
    refine ey_getf_i (z := (m1 76 0)) (cd_344 rfl) mt_344 rfl rfl rfl (jhm_gi hb 0) ?_
    by_cases q3 : (jw (m1 76 0)) ≤ 0
    · rw [if_pos q3] at e
      refine ey_zle (cd_344 rfl) rfl rfl q3 ?_
      refine ey_aload_n (cd_344 rfl) g0 ?_
      refine ey_iconst (cd_344 rfl) ?_
      obtain ⟨m4, e5, e⟩ := jbind e
      refine ey_putf_i (cd_344 rfl) mt_344 rfl rfl rfl (jhm_pi' (k := 96) hb e5) ?_
      refine ey_aload_n (cd_344 rfl) g0 ?_
      refine ey_iconst (cd_344 rfl) ?_
      obtain ⟨m6, e7, e⟩ := jbind e
      refine ey_putf_i (cd_344 rfl) mt_344 rfl rfl rfl (jhm_pi' (k := 97) hb e7) ?_
      refine ey_aload_n (cd_344 rfl) g0 ?_
      refine ey_iconst (cd_344 rfl) ?_
      obtain ⟨m8, e9, e⟩ := jbind e
      refine ey_putf_i (cd_344 rfl) mt_344 rfl rfl rfl (jhm_pi' (k := 98) hb e9) ?_
      refine ey_aload_n (cd_344 rfl) g0 ?_
      refine ey_iconst (cd_344 rfl) ?_
      obtain ⟨m10, e11, e⟩ := jbind e
      refine ey_putf_i (cd_344 rfl) mt_344 rfl rfl rfl (jhm_pi' (k := 101) hb e11) ?_
      refine ey_aload_n (cd_344 rfl) g0 ?_
      refine ey_iconst (cd_344 rfl) ?_
      obtain ⟨m12, e13, e⟩ := jbind e
      refine ey_putf_i (cd_344 rfl) mt_344 rfl rfl rfl (jhm_pi' (k := 102) hb e13) ?_
      refine ey_aload_n (cd_344 rfl) g0 ?_
      refine ey_iconst (cd_344 rfl) ?_
      obtain ⟨m14, e15, e⟩ := jbind e
      refine ey_putf_z (cd_344 rfl) mt_344 rfl rfl rfl (Or.inl rfl) (jhm_pi' (k := 103) hb e15) ?_
      refine ey_iconst (cd_344 rfl) ?_
      refine ey_istore_n (cd_344 rfl) mt_344 rfl ?_
      obtain ⟨x27, e28, e⟩ := jbind e
      refine jk_344_l59 hb h6 e28 ?_ (jup lv 1 (jI 1)) (jup_pr (lv := lv) (j := 0) (v := jI 1) (z := (some 76)) g0) rfl
      intro lv g0
      refine ey_aload_n (cd_344 rfl) g0 ?_
      refine ey_iconst (cd_344 rfl) ?_
      obtain ⟨m29, e30, e⟩ := jbind e
      refine ey_putf_i (cd_344 rfl) mt_344 rfl rfl rfl (jhm_pi' (k := 5) hb e30) ?_
      refine ey_aload_n (cd_344 rfl) g0 ?_
      refine ey_getf_i (z := (m29 76 97)) (cd_344 rfl) mt_344 rfl rfl rfl (jhm_gi hb 97) ?_
      refine ey_iconst (cd_344 rfl) ?_
      by_cases q31 : (jw (m29 76 97)) = (-1)
      · rw [if_pos q31] at e
        refine ey_ceq (cd_344 rfl) rfl rfl (show jw (-1) = (-1) from by decide) q31 ?_
        refine ey_aload_n (cd_344 rfl) g0 ?_
        refine ey_getf_r (cd_344 rfl) mt_344 rfl rfl rfl (jhm_gr (q := 135) hb rfl) ?_
        refine ey_aload_n (cd_344 rfl) g0 ?_
        refine ey_getf_i (z := (m29 76 92)) (cd_344 rfl) mt_344 rfl rfl rfl (jhm_gi hb 92) ?_
        refine ey_aload_n (cd_344 rfl) g0 ?_
        refine ey_getf_i (z := (m29 76 102)) (cd_344 rfl) mt_344 rfl rfl rfl (jhm_gi hb 102) ?_
        obtain ⟨m32, e33, e⟩ := jbind e
        refine ey_iast (cd_344 rfl) (jhm_ta hb (by decide) rfl e33) ?_
        refine ey_aload_n (cd_344 rfl) g0 ?_
        refine ey_dup (cd_344 rfl) rfl ?_
        refine ey_getf_i (z := (m32 76 92)) (cd_344 rfl) mt_344 rfl rfl rfl (jhm_gi hb 92) ?_
        refine ey_iconst (cd_344 rfl) ?_
        refine ey_iadd (cd_344 rfl) ?_
        obtain ⟨m34, e35, e⟩ := jbind e
        refine ey_putf_i (cd_344 rfl) mt_344 rfl rfl rfl (jhm_pi' (k := 92) hb e35) ?_
        refine ey_aload_n (cd_344 rfl) g0 ?_
        refine ey_getf_i (z := (m34 76 92)) (cd_344 rfl) mt_344 rfl rfl rfl (jhm_gi hb 92) ?_
        refine ey_iconst (cd_344 rfl) ?_
        refine ey_isub (cd_344 rfl) ?_
        cases e
        exact ey_reti (cd_344 rfl) mt_344 rfl
      · rw [if_neg q31] at e
        refine ey_neq (cd_344 rfl) rfl rfl (show jw (-1) = (-1) from by decide) q31 ?_
        refine ey_iconst (cd_344 rfl) ?_
        refine ey_aload_n (cd_344 rfl) g0 ?_
        refine ey_getf_i (z := (m29 76 97)) (cd_344 rfl) mt_344 rfl rfl rfl (jhm_gi hb 97) ?_
        refine ey_isub (cd_344 rfl) ?_
        cases e
        exact ey_reti (cd_344 rfl) mt_344 rfl
    · rw [if_neg q3] at e
      refine ey_yle (cd_344 rfl) rfl rfl q3 ?_
      refine ey_iconst (cd_344 rfl) ?_
      cases e
      exact ey_reti (cd_344 rfl) mt_344 rfl
  by_cases q37 : (jw (m 76 92)) = 8
  · refine ey_nne (cd_344 rfl) rfl rfl (show jw 8 = 8 from by decide) (fun w => w q37) ?_
    refine ey_iconst (cd_344 rfl) ?_
    refine ey_goto (cd_344 rfl) rfl ?_
    exact ey_rs (s0 := [jI 1, jR (some 76)]) (s1 := [jI (if (jw (m 76 92)) = 8 then 1 else 0), jR (some 76)]) (by rw [show ((if (jw (m 76 92)) = 8 then 1 else 0) : Int) = 1 from (if_pos q37)]) (K36 (jlf (jla 0 [jR (some 76)])) rfl)
  · refine ey_cne (cd_344 rfl) rfl rfl (show jw 8 = 8 from by decide) q37 ?_
    refine ey_iconst (cd_344 rfl) ?_
    exact ey_rs (s0 := [jI 0, jR (some 76)]) (s1 := [jI (if (jw (m 76 92)) = 8 then 1 else 0), jR (some 76)]) (by rw [show ((if (jw (m 76 92)) = 8 then 1 else 0) : Int) = 0 from (if_neg q37)]) (K36 (jlf (jla 0 [jR (some 76)])) rfl)
theorem cd_346 {pc : Nat} {i : Instr × Nat} (h : mm_lk mm_c346 pc = some i) : mm_cd 346 pc = some i := h
theorem mt_346 : mm_MT 346 = (12, 3, some .int, 3, 1, []) := rfl
set_option maxRecDepth 100000 in
theorem jk_346_b77 {L : Nat} {xs : Nat → Int32} {y0 : Int} {h : jH} {o : Int} (e : jd_346_b77 y0  = some o) : ∀ lv : jL, ey (mm_xt L xs) 0 346 77 lv [jI y0] h (.inl (some (jcv (jI o)), jaH h)) := by
  intro lv 
  unfold jd_346_b77 at e
  cases e
  exact ey_reti (cd_346 rfl) mt_346 rfl
set_option maxRecDepth 100000 in
theorem jk_346_b94 {L : Nat} {xs : Nat → Int32} {y0 : Int} {h : jH} {o : Int} (e : jd_346_b94 y0  = some o) : ∀ lv : jL, ey (mm_xt L xs) 0 346 94 lv [jI y0] h (.inl (some (jcv (jI o)), jaH h)) := by
  intro lv 
  unfold jd_346_b94 at e
  cases e
  exact ey_reti (cd_346 rfl) mt_346 rfl
set_option maxRecDepth 100000 in
theorem jk_346_b87 {L : Nat} {xs : Nat → Int32}  {h : jH} {o : Int} (e : jd_346_b87   = some o) : ∀ lv : jL, ey (mm_xt L xs) 0 346 87 lv [] h (.inl (some (jcv (jI o)), jaH h)) := by
  intro lv 
  unfold jd_346_b87 at e
  refine ey_iconst (cd_346 rfl) ?_
  refine ey_goto (cd_346 rfl) rfl ?_
  exact jk_346_b94 e lv 
set_option maxRecDepth 100000 in
theorem jk_346_b106 {L : Nat} {xs : Nat → Int32} {x1 : Int} {x2 : Int} {h : jH} {o : Int} (e : jd_346_b106 x1 x2  = some o) : ∀ lv : jL, lv 1 = some (jI x1) → lv 2 = some (jI x2) → ey (mm_xt L xs) 0 346 106 lv [] h (.inl (some (jcv (jI o)), jaH h)) := by
  intro lv f1 f2
  unfold jd_346_b106 at e
  refine ey_iload_n (cd_346 rfl) f1 ?_
  refine ey_iload_n (cd_346 rfl) f2 ?_
  have K15 : ∀ lv : jL, ey (mm_xt L xs) 0 346 116 lv [jI (if (jw x1) ≤ (jw x2) then x2 else x1)] h (.inl (some (jcv (jI o)), jaH h)) := by
    intro lv 
    cases e
    exact ey_reti (cd_346 rfl) mt_346 rfl
  by_cases q16 : (jw x1) ≤ (jw x2)
  · refine ey_cle (cd_346 rfl) rfl rfl rfl q16 ?_
    refine ey_iload_n (cd_346 rfl) f2 ?_
    exact ey_rs (s0 := [jI x2]) (s1 := [jI (if (jw x1) ≤ (jw x2) then x2 else x1)]) (by rw [show ((if (jw x1) ≤ (jw x2) then x2 else x1) : Int) = x2 from (if_pos q16)]) (K15 lv )
  · refine ey_nle (cd_346 rfl) rfl rfl rfl q16 ?_
    refine ey_iload_n (cd_346 rfl) f1 ?_
    refine ey_goto (cd_346 rfl) rfl ?_
    exact ey_rs (s0 := [jI x1]) (s1 := [jI (if (jw x1) ≤ (jw x2) then x2 else x1)]) (by rw [show ((if (jw x1) ≤ (jw x2) then x2 else x1) : Int) = x1 from (if_neg q16)]) (K15 lv )
set_option maxRecDepth 100000 in
theorem ok_346 {L : Nat} {xs : Nat → Int32} {p0 : Int} {p1 : Int} {p2 : Int} {h : jH} {o : Int} (e : jd_346 p0 p1 p2  = some o) : mm_Runs (mm_xt L xs) 1 346 ([jI p0, jI p1, jI p2].map jcv) (jaH h) (.inl (some (jcv (jI o)), jaH h)) := by
  refine ey_run0 _ mt_346 (jsl_s rfl) ?_
  unfold jd_346 at e
  refine ey_iload_n (cd_346 rfl) rfl ?_
  by_cases q1 : (jw p0) = 9
  · rw [if_pos q1] at e
    refine ey_tsw (cd_346 rfl) q1 (by decide) rfl rfl ?_
    refine ey_iload_n (cd_346 rfl) rfl ?_
    refine ey_iload_n (cd_346 rfl) rfl ?_
    refine ey_iadd (cd_346 rfl) ?_
    cases e
    exact ey_reti (cd_346 rfl) mt_346 rfl
  · rw [if_neg q1] at e
    by_cases q2 : (jw p0) = 10
    · rw [if_pos q2] at e
      refine ey_tsw (cd_346 rfl) q2 (by decide) rfl rfl ?_
      refine ey_iload_n (cd_346 rfl) rfl ?_
      refine ey_iload_n (cd_346 rfl) rfl ?_
      refine ey_isub (cd_346 rfl) ?_
      cases e
      exact ey_reti (cd_346 rfl) mt_346 rfl
    · rw [if_neg q2] at e
      by_cases q3 : (jw p0) = 11
      · rw [if_pos q3] at e
        refine ey_tsw (cd_346 rfl) q3 (by decide) rfl rfl ?_
        refine ey_iload_n (cd_346 rfl) rfl ?_
        refine ey_iload_n (cd_346 rfl) rfl ?_
        refine ey_imul (cd_346 rfl) ?_
        cases e
        exact ey_reti (cd_346 rfl) mt_346 rfl
      · rw [if_neg q3] at e
        by_cases q4 : (jw p0) = 12
        · rw [if_pos q4] at e
          refine ey_tsw (cd_346 rfl) q4 (by decide) rfl rfl ?_
          refine ey_iload_n (cd_346 rfl) rfl ?_
          by_cases q5 : (jw p2) = 0
          · rw [if_pos q5] at e
            refine ey_yne (cd_346 rfl) rfl rfl (fun w => w q5) ?_
            refine ey_iconst (cd_346 rfl) ?_
            refine ey_goto (cd_346 rfl) rfl ?_
            exact jk_346_b77 e (jlf (jla 0 [jI p0, jI p1, jI p2])) 
          · rw [if_neg q5] at e
            refine ey_zne (cd_346 rfl) rfl rfl q5 ?_
            refine ey_iload_n (cd_346 rfl) rfl ?_
            refine ey_iconst (cd_346 rfl) ?_
            by_cases q6 : (jw p2) = (-1)
            · rw [if_pos q6] at e
              refine ey_nne (cd_346 rfl) rfl rfl (show jw (-1) = (-1) from by decide) (fun w => w q6) ?_
              refine ey_iload_n (cd_346 rfl) rfl ?_
              refine ey_ineg (cd_346 rfl) ?_
              refine ey_goto (cd_346 rfl) rfl ?_
              exact jk_346_b77 e (jlf (jla 0 [jI p0, jI p1, jI p2])) 
            · rw [if_neg q6] at e
              refine ey_cne (cd_346 rfl) rfl rfl (show jw (-1) = (-1) from by decide) q6 ?_
              refine ey_iload_n (cd_346 rfl) rfl ?_
              refine ey_iload_n (cd_346 rfl) rfl ?_
              obtain ⟨u7, e8, e⟩ := jbind e
              refine ey_idiv (cd_346 rfl) (jnz_s e8) ?_
              exact jk_346_b77 e (jlf (jla 0 [jI p0, jI p1, jI p2])) 
        · rw [if_neg q4] at e
          by_cases q9 : (jw p0) = 13
          · rw [if_pos q9] at e
            refine ey_tsw (cd_346 rfl) q9 (by decide) rfl rfl ?_
            refine ey_iload_n (cd_346 rfl) rfl ?_
            by_cases q10 : (jw p2) = 0
            · rw [if_pos q10] at e
              refine ey_zeq (cd_346 rfl) rfl rfl q10 ?_
              exact jk_346_b87 e (jlf (jla 0 [jI p0, jI p1, jI p2])) 
            · rw [if_neg q10] at e
              refine ey_yeq (cd_346 rfl) rfl rfl q10 ?_
              refine ey_iload_n (cd_346 rfl) rfl ?_
              refine ey_iconst (cd_346 rfl) ?_
              by_cases q11 : (jw p2) = (-1)
              · rw [if_pos q11] at e
                refine ey_nne (cd_346 rfl) rfl rfl (show jw (-1) = (-1) from by decide) (fun w => w q11) ?_
                exact jk_346_b87 e (jlf (jla 0 [jI p0, jI p1, jI p2])) 
              · rw [if_neg q11] at e
                refine ey_cne (cd_346 rfl) rfl rfl (show jw (-1) = (-1) from by decide) q11 ?_
                refine ey_iload_n (cd_346 rfl) rfl ?_
                refine ey_iload_n (cd_346 rfl) rfl ?_
                obtain ⟨u12, e13, e⟩ := jbind e
                refine ey_irem (cd_346 rfl) (jnz_s e13) ?_
                exact jk_346_b94 e (jlf (jla 0 [jI p0, jI p1, jI p2])) 
          · rw [if_neg q9] at e
            by_cases q14 : (jw p0) = 14
            · rw [if_pos q14] at e
              refine ey_tsw (cd_346 rfl) q14 (by decide) rfl rfl ?_
              exact jk_346_b106 e (jlf (jla 0 [jI p0, jI p1, jI p2])) rfl rfl
            · rw [if_neg q14] at e
              by_cases q17 : (jw p0) = 15
              · rw [if_pos q17] at e
                refine ey_tsw (cd_346 rfl) q17 (by decide) rfl rfl ?_
                refine ey_iload_n (cd_346 rfl) rfl ?_
                refine ey_iload_n (cd_346 rfl) rfl ?_
                have K18 : ∀ lv : jL, ey (mm_xt L xs) 0 346 105 lv [jI (if (jw p2) ≤ (jw p1) then p2 else p1)] h (.inl (some (jcv (jI o)), jaH h)) := by
                  intro lv 
                  cases e
                  exact ey_reti (cd_346 rfl) mt_346 rfl
                by_cases q19 : (jw p2) ≤ (jw p1)
                · refine ey_cge (cd_346 rfl) rfl rfl rfl q19 ?_
                  refine ey_iload_n (cd_346 rfl) rfl ?_
                  exact ey_rs (s0 := [jI p2]) (s1 := [jI (if (jw p2) ≤ (jw p1) then p2 else p1)]) (by rw [show ((if (jw p2) ≤ (jw p1) then p2 else p1) : Int) = p2 from (if_pos q19)]) (K18 (jlf (jla 0 [jI p0, jI p1, jI p2])) )
                · refine ey_nge (cd_346 rfl) rfl rfl rfl q19 ?_
                  refine ey_iload_n (cd_346 rfl) rfl ?_
                  refine ey_goto (cd_346 rfl) rfl ?_
                  exact ey_rs (s0 := [jI p1]) (s1 := [jI (if (jw p2) ≤ (jw p1) then p2 else p1)]) (by rw [show ((if (jw p2) ≤ (jw p1) then p2 else p1) : Int) = p1 from (if_neg q19)]) (K18 (jlf (jla 0 [jI p0, jI p1, jI p2])) )
              · rw [if_neg q17] at e
                refine ey_tsw_d (cd_346 rfl) (by omega) rfl ?_
                exact jk_346_b106 e (jlf (jla 0 [jI p0, jI p1, jI p2])) rfl rfl
theorem cd_345 {pc : Nat} {i : Instr × Nat} (h : mm_lk mm_c345 pc = some i) : mm_cd 345 pc = some i := h
theorem mt_345 : mm_MT 345 = (12, 14, some .int, 6, 0, []) := rfl
set_option maxRecDepth 100000 in
theorem jk_345_b350 {L : Nat} {xs : Nat → Int32} {b : jH} (hb : 152 ≤ b.1) (h6 : b.1 ≤ 1000000) {x1 : Int} {x2 : Int} {x3 : Int} {x4 : Int} {x5 : Int} {x6 : Int} {x7 : Int} {x8 : Int} {x9 : Int} {x10 : Int} {m : jM} {o : ((Int × Int × jM) ⊕ jM)} {r : mm_R} (e : jd_345_b350 x1 x2 x3 x4 x5 x6 x7 x8 x9 x10 m = some o) (K : jsm (fun s => (∀ lv : jL, lv 0 = some (jR (some 76)) → lv 1 = some (jI x1) → lv 2 = some (jI x2) → lv 3 = some (jI x3) → lv 4 = some (jI x4) → lv 5 = some (jI x5) → lv 6 = some (jI x6) → lv 7 = some (jI s.1) → lv 8 = some (jI x8) → lv 9 = some (jI x9) → lv 10 = some (jI s.2.1) → ey (mm_xt L xs) 2 345 34 lv [] (jhm b s.2.2) r)) (fun x => (∀ lv : jL, lv 0 = some (jR (some 76)) → ey (mm_xt L xs) 2 345 356 lv [] (jhm b x) r)) o) : ∀ lv : jL, lv 0 = some (jR (some 76)) → lv 1 = some (jI x1) → lv 2 = some (jI x2) → lv 3 = some (jI x3) → lv 4 = some (jI x4) → lv 5 = some (jI x5) → lv 6 = some (jI x6) → lv 7 = some (jI x7) → lv 8 = some (jI x8) → lv 9 = some (jI x9) → lv 10 = some (jI x10) → ey (mm_xt L xs) 2 345 350 lv [] (jhm b m) r := by
  intro lv f0 f1 f2 f3 f4 f5 f6 f7 f8 f9 f10
  unfold jd_345_b350 at e
  refine ey_iinc (cd_345 rfl) mt_345 rfl f10 ?_
  refine ey_goto (cd_345 rfl) rfl ?_
  cases e
  exact K (jup lv 10 (jI (x10 + 1))) f0 f1 f2 f3 f4 f5 f6 f7 f8 (jup_pi (lv := lv) (j := 9) (v := jI (x10 + 1)) (z := x9) f9) rfl
set_option maxRecDepth 100000 in
theorem jk_345_b254 {L : Nat} {xs : Nat → Int32} {b : jH} (hb : 152 ≤ b.1) (h6 : b.1 ≤ 1000000) {x1 : Int} {x2 : Int} {x3 : Int} {x4 : Int} {x5 : Int} {x6 : Int} {x7 : Int} {x8 : Int} {x9 : Int} {x10 : Int} {y0 : Int} {y1 : Int} {m : jM} {o : ((Int × Int × jM) ⊕ jM)} {r : mm_R} (e : jd_345_b254 x1 x2 x3 x4 x5 x6 x7 x8 x9 x10 y0 y1 m = some o) (K : jsm (fun s => (∀ lv : jL, lv 0 = some (jR (some 76)) → lv 1 = some (jI x1) → lv 2 = some (jI x2) → lv 3 = some (jI x3) → lv 4 = some (jI x4) → lv 5 = some (jI x5) → lv 6 = some (jI x6) → lv 7 = some (jI s.1) → lv 8 = some (jI x8) → lv 9 = some (jI x9) → lv 10 = some (jI s.2.1) → ey (mm_xt L xs) 2 345 34 lv [] (jhm b s.2.2) r)) (fun x => (∀ lv : jL, lv 0 = some (jR (some 76)) → ey (mm_xt L xs) 2 345 356 lv [] (jhm b x) r)) o) : ∀ lv : jL, lv 0 = some (jR (some 76)) → lv 1 = some (jI x1) → lv 2 = some (jI x2) → lv 3 = some (jI x3) → lv 4 = some (jI x4) → lv 5 = some (jI x5) → lv 6 = some (jI x6) → lv 7 = some (jI x7) → lv 8 = some (jI x8) → lv 9 = some (jI x9) → lv 10 = some (jI x10) → ey (mm_xt L xs) 2 345 254 lv [jI y0, jI y1, jR (some 140)] (jhm b m) r := by
  intro lv f0 f1 f2 f3 f4 f5 f6 f7 f8 f9 f10
  unfold jd_345_b254 at e
  obtain ⟨m22, e23, e⟩ := jbind e
  refine ey_iast (cd_345 rfl) (jhm_ta hb (by decide) rfl e23) ?_
  refine ey_goto (cd_345 rfl) rfl ?_
  exact jk_345_b350 hb h6 e K lv f0 f1 f2 f3 f4 f5 f6 f7 f8 f9 f10
set_option maxRecDepth 100000 in
theorem jk_345_b349 {L : Nat} {xs : Nat → Int32} {b : jH} (hb : 152 ≤ b.1) (h6 : b.1 ≤ 1000000) {x1 : Int} {x2 : Int} {x3 : Int} {x4 : Int} {x5 : Int} {x6 : Int} {x7 : Int} {x8 : Int} {x9 : Int} {x10 : Int} {y0 : Int} {y1 : Int} {m : jM} {o : ((Int × Int × jM) ⊕ jM)} {r : mm_R} (e : jd_345_b349 x1 x2 x3 x4 x5 x6 x7 x8 x9 x10 y0 y1 m = some o) (K : jsm (fun s => (∀ lv : jL, lv 0 = some (jR (some 76)) → lv 1 = some (jI x1) → lv 2 = some (jI x2) → lv 3 = some (jI x3) → lv 4 = some (jI x4) → lv 5 = some (jI x5) → lv 6 = some (jI x6) → lv 7 = some (jI s.1) → lv 8 = some (jI x8) → lv 9 = some (jI x9) → lv 10 = some (jI s.2.1) → ey (mm_xt L xs) 2 345 34 lv [] (jhm b s.2.2) r)) (fun x => (∀ lv : jL, lv 0 = some (jR (some 76)) → ey (mm_xt L xs) 2 345 356 lv [] (jhm b x) r)) o) : ∀ lv : jL, lv 0 = some (jR (some 76)) → lv 1 = some (jI x1) → lv 2 = some (jI x2) → lv 3 = some (jI x3) → lv 4 = some (jI x4) → lv 5 = some (jI x5) → lv 6 = some (jI x6) → lv 7 = some (jI x7) → lv 8 = some (jI x8) → lv 9 = some (jI x9) → lv 10 = some (jI x10) → ey (mm_xt L xs) 2 345 349 lv [jI y0, jI y1, jR (some 140)] (jhm b m) r := by
  intro lv f0 f1 f2 f3 f4 f5 f6 f7 f8 f9 f10
  unfold jd_345_b349 at e
  obtain ⟨m35, e36, e⟩ := jbind e
  refine ey_iast (cd_345 rfl) (jhm_ta hb (by decide) rfl e36) ?_
  exact jk_345_b350 hb h6 e K lv f0 f1 f2 f3 f4 f5 f6 f7 f8 f9 f10
set_option maxRecDepth 100000 in
theorem jk_345_b169 {L : Nat} {xs : Nat → Int32} {b : jH} (hb : 152 ≤ b.1) (h6 : b.1 ≤ 1000000) {x1 : Int} {x2 : Int} {x3 : Int} {x4 : Int} {x5 : Int} {x6 : Int} {x7 : Int} {x8 : Int} {x9 : Int} {x10 : Int} {y0 : Int} {y1 : Int} {m : jM} {o : ((Int × Int × jM) ⊕ jM)} {r : mm_R} (e : jd_345_b169 x1 x2 x3 x4 x5 x6 x7 x8 x9 x10 y0 y1 m = some o) (K : jsm (fun s => (∀ lv : jL, lv 0 = some (jR (some 76)) → lv 1 = some (jI x1) → lv 2 = some (jI x2) → lv 3 = some (jI x3) → lv 4 = some (jI x4) → lv 5 = some (jI x5) → lv 6 = some (jI x6) → lv 7 = some (jI s.1) → lv 8 = some (jI x8) → lv 9 = some (jI x9) → lv 10 = some (jI s.2.1) → ey (mm_xt L xs) 2 345 34 lv [] (jhm b s.2.2) r)) (fun x => (∀ lv : jL, lv 0 = some (jR (some 76)) → ey (mm_xt L xs) 2 345 356 lv [] (jhm b x) r)) o) : ∀ lv : jL, lv 0 = some (jR (some 76)) → lv 1 = some (jI x1) → lv 2 = some (jI x2) → lv 3 = some (jI x3) → lv 4 = some (jI x4) → lv 5 = some (jI x5) → lv 6 = some (jI x6) → lv 7 = some (jI x7) → lv 8 = some (jI x8) → lv 9 = some (jI x9) → lv 10 = some (jI x10) → ey (mm_xt L xs) 2 345 169 lv [jI y0, jI y1, jR (some 140)] (jhm b m) r := by
  intro lv f0 f1 f2 f3 f4 f5 f6 f7 f8 f9 f10
  unfold jd_345_b169 at e
  obtain ⟨m42, e43, e⟩ := jbind e
  refine ey_iast (cd_345 rfl) (jhm_ta hb (by decide) rfl e43) ?_
  refine ey_iinc (cd_345 rfl) mt_345 rfl f7 ?_
  refine ey_goto (cd_345 rfl) rfl ?_
  exact jk_345_b350 hb h6 e K (jup lv 7 (jI (x7 + 1))) f0 f1 f2 f3 f4 f5 (jup_pi (lv := lv) (j := 6) (v := jI (x7 + 1)) (z := x6) f6) rfl f8 f9 f10
set_option maxRecDepth 100000 in
theorem jk_345_s34 {L : Nat} {xs : Nat → Int32} {b : jH} (hb : 152 ≤ b.1) (h6 : b.1 ≤ 1000000) {x1 : Int} {x2 : Int} {x3 : Int} {x4 : Int} {x5 : Int} {x6 : Int} {x8 : Int} {x9 : Int} {x7 : Int} {x10 : Int} {m : jM} {o : ((Int × Int × jM) ⊕ jM)} {r : mm_R} (e : jd_345_s34 x1 x2 x3 x4 x5 x6 x8 x9 x7 x10 m = some o) (K : jsm (fun s => (∀ lv : jL, lv 0 = some (jR (some 76)) → lv 1 = some (jI x1) → lv 2 = some (jI x2) → lv 3 = some (jI x3) → lv 4 = some (jI x4) → lv 5 = some (jI x5) → lv 6 = some (jI x6) → lv 7 = some (jI s.1) → lv 8 = some (jI x8) → lv 9 = some (jI x9) → lv 10 = some (jI s.2.1) → ey (mm_xt L xs) 2 345 34 lv [] (jhm b s.2.2) r)) (fun x => (∀ lv : jL, lv 0 = some (jR (some 76)) → ey (mm_xt L xs) 2 345 356 lv [] (jhm b x) r)) o) : ∀ lv : jL, lv 0 = some (jR (some 76)) → lv 1 = some (jI x1) → lv 2 = some (jI x2) → lv 3 = some (jI x3) → lv 4 = some (jI x4) → lv 5 = some (jI x5) → lv 6 = some (jI x6) → lv 7 = some (jI x7) → lv 8 = some (jI x8) → lv 9 = some (jI x9) → lv 10 = some (jI x10) → ey (mm_xt L xs) 2 345 34 lv [] (jhm b m) r := by
  intro lv f0 f1 f2 f3 f4 f5 f6 f7 f8 f9 f10
  unfold jd_345_s34 at e
  refine ey_iload (cd_345 rfl) f10 ?_
  refine ey_sipush (cd_345 rfl) (by decide) ?_
  refine ey_iload_n (cd_345 rfl) f1 ?_
  refine ey_imul (cd_345 rfl) ?_
  refine ey_aload_n (cd_345 rfl) f0 ?_
  refine ey_getf_r (cd_345 rfl) mt_345 rfl rfl rfl (jhm_gr (q := 135) hb rfl) ?_
  refine ey_iload_n (cd_345 rfl) f1 ?_
  obtain ⟨v5, e6, e⟩ := jbind e
  refine ey_iald (cd_345 rfl) (jhm_ai hb h6 (by decide) rfl e6) ?_
  refine ey_iadd (cd_345 rfl) ?_
  by_cases q7 : (jw ((400 * x1) + v5)) ≤ (jw x10)
  · rw [if_pos q7] at e
    refine ey_cge (cd_345 rfl) rfl rfl rfl q7 ?_
    cases e
    exact K lv f0
  · rw [if_neg q7] at e
    refine ey_nge (cd_345 rfl) rfl rfl rfl q7 ?_
    refine ey_aload_n (cd_345 rfl) f0 ?_
    refine ey_getf_r (cd_345 rfl) mt_345 rfl rfl rfl (jhm_gr (q := 136) hb rfl) ?_
    refine ey_iload (cd_345 rfl) f10 ?_
    obtain ⟨v8, e9, e⟩ := jbind e
    refine ey_iald (cd_345 rfl) (jhm_ai hb h6 (by decide) rfl e9) ?_
    refine ey_istore (cd_345 rfl) mt_345 rfl ?_
    refine ey_iload (cd_345 rfl) rfl ?_
    refine ey_bipush (cd_345 rfl) (by decide) ?_
    by_cases q10 : 8 ≤ (jw v8)
    · rw [if_pos q10] at e
      refine ey_cge (cd_345 rfl) rfl rfl (show jw 8 = 8 from by decide) q10 ?_
      refine ey_iload (cd_345 rfl) rfl ?_
      refine ey_bipush (cd_345 rfl) (by decide) ?_
      by_cases q11 : (jw v8) = 8
      · rw [if_pos q11] at e
        refine ey_nne (cd_345 rfl) rfl rfl (show jw 8 = 8 from by decide) (fun w => w q11) ?_
        refine ey_aload_n (cd_345 rfl) f0 ?_
        refine ey_getf_r (cd_345 rfl) mt_345 rfl rfl rfl (jhm_gr (q := 140) hb rfl) ?_
        refine ey_iload (cd_345 rfl) f7 ?_
        refine ey_iconst (cd_345 rfl) ?_
        refine ey_isub (cd_345 rfl) ?_
        refine ey_aload_n (cd_345 rfl) f0 ?_
        refine ey_getf_r (cd_345 rfl) mt_345 rfl rfl rfl (jhm_gr (q := 140) hb rfl) ?_
        refine ey_iload (cd_345 rfl) f7 ?_
        refine ey_iconst (cd_345 rfl) ?_
        refine ey_isub (cd_345 rfl) ?_
        obtain ⟨v12, e13, e⟩ := jbind e
        refine ey_iald (cd_345 rfl) (jhm_ai hb h6 (by decide) rfl e13) ?_
        refine ey_ineg (cd_345 rfl) ?_
        obtain ⟨m14, e15, e⟩ := jbind e
        refine ey_iast (cd_345 rfl) (jhm_ta hb (by decide) rfl e15) ?_
        refine ey_goto (cd_345 rfl) rfl ?_
        exact jk_345_b350 hb h6 e K (jup lv 11 (jI v8)) f0 f1 f2 f3 f4 f5 f6 f7 f8 f9 (jup_pi (lv := lv) (j := 10) (v := jI v8) (z := x10) f10)
      · rw [if_neg q11] at e
        refine ey_cne (cd_345 rfl) rfl rfl (show jw 8 = 8 from by decide) q11 ?_
        refine ey_iload (cd_345 rfl) rfl ?_
        refine ey_bipush (cd_345 rfl) (by decide) ?_
        by_cases q16 : (jw v8) = 17
        · rw [if_pos q16] at e
          refine ey_nne (cd_345 rfl) rfl rfl (show jw 17 = 17 from by decide) (fun w => w q16) ?_
          refine ey_iinc (cd_345 rfl) mt_345 rfl f7 ?_
          refine ey_aload_n (cd_345 rfl) f0 ?_
          refine ey_getf_r (cd_345 rfl) mt_345 rfl rfl rfl (jhm_gr (q := 140) hb rfl) ?_
          refine ey_iload (cd_345 rfl) rfl ?_
          refine ey_iconst (cd_345 rfl) ?_
          refine ey_isub (cd_345 rfl) ?_
          refine ey_aload_n (cd_345 rfl) f0 ?_
          refine ey_getf_r (cd_345 rfl) mt_345 rfl rfl rfl (jhm_gr (q := 140) hb rfl) ?_
          refine ey_iload (cd_345 rfl) rfl ?_
          refine ey_iconst (cd_345 rfl) ?_
          refine ey_isub (cd_345 rfl) ?_
          obtain ⟨v17, e18, e⟩ := jbind e
          refine ey_iald (cd_345 rfl) (jhm_ai hb h6 (by decide) rfl e18) ?_
          by_cases q19 : (jw v17) = 0
          · rw [if_pos q19] at e
            refine ey_zeq (cd_345 rfl) rfl rfl q19 ?_
            refine ey_aload_n (cd_345 rfl) f0 ?_
            refine ey_getf_r (cd_345 rfl) mt_345 rfl rfl rfl (jhm_gr (q := 140) hb rfl) ?_
            refine ey_iload (cd_345 rfl) rfl ?_
            refine ey_iconst (cd_345 rfl) ?_
            refine ey_iadd (cd_345 rfl) ?_
            obtain ⟨v20, e21, e⟩ := jbind e
            refine ey_iald (cd_345 rfl) (jhm_ai hb h6 (by decide) rfl e21) ?_
            exact jk_345_b254 hb h6 e K (jup (jup lv 11 (jI v8)) 7 (jI (x7 + (-2)))) f0 f1 f2 f3 f4 f5 (jup_pi (lv := (jup lv 11 (jI v8))) (j := 6) (v := jI (x7 + (-2))) (z := x6) f6) rfl f8 f9 (jup_o rfl (jup_pi (lv := lv) (j := 10) (v := jI v8) (z := x10) f10))
          · rw [if_neg q19] at e
            refine ey_yeq (cd_345 rfl) rfl rfl q19 ?_
            refine ey_aload_n (cd_345 rfl) f0 ?_
            refine ey_getf_r (cd_345 rfl) mt_345 rfl rfl rfl (jhm_gr (q := 140) hb rfl) ?_
            refine ey_iload (cd_345 rfl) rfl ?_
            obtain ⟨v24, e25, e⟩ := jbind e
            refine ey_iald (cd_345 rfl) (jhm_ai hb h6 (by decide) rfl e25) ?_
            refine ey_goto (cd_345 rfl) rfl ?_
            exact jk_345_b254 hb h6 e K (jup (jup lv 11 (jI v8)) 7 (jI (x7 + (-2)))) f0 f1 f2 f3 f4 f5 (jup_pi (lv := (jup lv 11 (jI v8))) (j := 6) (v := jI (x7 + (-2))) (z := x6) f6) rfl f8 f9 (jup_o rfl (jup_pi (lv := lv) (j := 10) (v := jI v8) (z := x10) f10))
        · rw [if_neg q16] at e
          refine ey_cne (cd_345 rfl) rfl rfl (show jw 17 = 17 from by decide) q16 ?_
          refine ey_iinc (cd_345 rfl) mt_345 rfl f7 ?_
          refine ey_aload_n (cd_345 rfl) f0 ?_
          refine ey_getf_r (cd_345 rfl) mt_345 rfl rfl rfl (jhm_gr (q := 140) hb rfl) ?_
          refine ey_iload (cd_345 rfl) rfl ?_
          refine ey_iconst (cd_345 rfl) ?_
          refine ey_isub (cd_345 rfl) ?_
          obtain ⟨v26, e27, e⟩ := jbind e
          refine ey_iald (cd_345 rfl) (jhm_ai hb h6 (by decide) rfl e27) ?_
          refine ey_istore (cd_345 rfl) mt_345 rfl ?_
          refine ey_aload_n (cd_345 rfl) f0 ?_
          refine ey_getf_r (cd_345 rfl) mt_345 rfl rfl rfl (jhm_gr (q := 140) hb rfl) ?_
          refine ey_iload (cd_345 rfl) rfl ?_
          obtain ⟨v28, e29, e⟩ := jbind e
          refine ey_iald (cd_345 rfl) (jhm_ai hb h6 (by decide) rfl e29) ?_
          refine ey_istore (cd_345 rfl) mt_345 rfl ?_
          refine ey_aload_n (cd_345 rfl) f0 ?_
          refine ey_getf_r (cd_345 rfl) mt_345 rfl rfl rfl (jhm_gr (q := 140) hb rfl) ?_
          refine ey_iload (cd_345 rfl) rfl ?_
          refine ey_iconst (cd_345 rfl) ?_
          refine ey_isub (cd_345 rfl) ?_
          refine ey_iload (cd_345 rfl) (jup_o rfl (jup_pi (lv := (jup (jup lv 11 (jI v8)) 7 (jI (x7 + (-1))))) (j := 11) (v := jI v26) (z := v8) rfl)) ?_
          refine ey_bipush (cd_345 rfl) (by decide) ?_
          by_cases q30 : (jw v8) = 14
          · rw [if_pos q30] at e
            refine ey_nne (cd_345 rfl) rfl rfl (show jw 14 = 14 from by decide) (fun w => w q30) ?_
            refine ey_aload_n (cd_345 rfl) f0 ?_
            refine ey_getf_r (cd_345 rfl) mt_345 rfl rfl rfl (jhm_gr (q := 79) hb rfl) ?_
            refine ey_aload_n (cd_345 rfl) f0 ?_
            refine ey_iload_n (cd_345 rfl) f2 ?_
            refine ey_iload_n (cd_345 rfl) f3 ?_
            refine ey_iload (cd_345 rfl) f4 ?_
            refine ey_i2l (cd_345 rfl) ?_
            refine ey_iload (cd_345 rfl) (jup_pi (lv := (jup (jup (jup lv 11 (jI v8)) 7 (jI (x7 + (-1)))) 12 (jI v26))) (j := 12) (v := jI v28) (z := v26) rfl) ?_
            refine ey_i2l (cd_345 rfl) ?_
            refine ey_ladd (cd_345 rfl) ?_
            refine ey_iconst (cd_345 rfl) ?_
            refine ey_iload (cd_345 rfl) f8 ?_
            refine ey_iconst (cd_345 rfl) ?_
            refine ey_isub (cd_345 rfl) ?_
            refine ey_cs (s0 := [jI (x8 - 1), jI 0, jJ ((jw x4) + (jw v26)), jI x3, jI x2, jR (some 76), jR (some 79), jI ((x7 + (-1)) - 1), jR (some 140)]) (s1 := [jI x3, jI x2, jR (some 76), jR (some 79), jI ((x7 + (-1)) - 1), jR (some 140)]) (st' := [jI (jd_205 ((jw x4) + (jw v26)) 0 (x8 - 1)), jI x3, jI x2, jR (some 76), jR (some 79), jI ((x7 + (-1)) - 1), jR (some 140)]) (cd_345 rfl) mt_345 mt_205 rfl (by decide) rfl rfl (jsml_s rfl) rfl (mm_Runs.up (d := 1) (by decide) (ok_205 )) ?_
            refine ey_iload (cd_345 rfl) f5 ?_
            refine ey_i2l (cd_345 rfl) ?_
            refine ey_iload (cd_345 rfl) rfl ?_
            refine ey_i2l (cd_345 rfl) ?_
            refine ey_ladd (cd_345 rfl) ?_
            refine ey_iconst (cd_345 rfl) ?_
            refine ey_iload (cd_345 rfl) f9 ?_
            refine ey_iconst (cd_345 rfl) ?_
            refine ey_isub (cd_345 rfl) ?_
            refine ey_cs (s0 := [jI (x9 - 1), jI 0, jJ ((jw x5) + (jw v28)), jI (jd_205 ((jw x4) + (jw v26)) 0 (x8 - 1)), jI x3, jI x2, jR (some 76), jR (some 79), jI ((x7 + (-1)) - 1), jR (some 140)]) (s1 := [jI (jd_205 ((jw x4) + (jw v26)) 0 (x8 - 1)), jI x3, jI x2, jR (some 76), jR (some 79), jI ((x7 + (-1)) - 1), jR (some 140)]) (st' := [jI (jd_205 ((jw x5) + (jw v28)) 0 (x9 - 1)), jI (jd_205 ((jw x4) + (jw v26)) 0 (x8 - 1)), jI x3, jI x2, jR (some 76), jR (some 79), jI ((x7 + (-1)) - 1), jR (some 140)]) (cd_345 rfl) mt_345 mt_205 rfl (by decide) rfl rfl (jsml_s rfl) rfl (mm_Runs.up (d := 1) (by decide) (ok_205 )) ?_
            obtain ⟨v31, e32, e⟩ := jbind e
            refine ey_cv (s0 := [jI (jd_205 ((jw x5) + (jw v28)) 0 (x9 - 1)), jI (jd_205 ((jw x4) + (jw v26)) 0 (x8 - 1)), jI x3, jI x2, jR (some 76), jR (some 79), jI ((x7 + (-1)) - 1), jR (some 140)]) (s1 := [jR (some 79), jI ((x7 + (-1)) - 1), jR (some 140)]) (st' := [jI v31, jR (some 79), jI ((x7 + (-1)) - 1), jR (some 140)]) (cd_345 rfl) mt_345 mt_212 rfl rfl rfl (jhm_is hb) rfl (jsml_s rfl) rfl (ok_212 hb h6 e32) ?_
            obtain ⟨v33, e34, e⟩ := jbind e
            refine ey_iald (cd_345 rfl) (jhm_ai hb h6 (by decide) rfl e34) ?_
            refine ey_goto (cd_345 rfl) rfl ?_
            exact jk_345_b349 hb h6 e K (jup (jup (jup (jup lv 11 (jI v8)) 7 (jI (x7 + (-1)))) 12 (jI v26)) 13 (jI v28)) f0 f1 f2 f3 f4 f5 (jup_o rfl (jup_o rfl (jup_pi (lv := (jup lv 11 (jI v8))) (j := 6) (v := jI (x7 + (-1))) (z := x6) f6))) rfl f8 f9 (jup_o rfl (jup_o rfl (jup_o rfl (jup_pi (lv := lv) (j := 10) (v := jI v8) (z := x10) f10))))
          · rw [if_neg q30] at e
            refine ey_cne (cd_345 rfl) rfl rfl (show jw 14 = 14 from by decide) q30 ?_
            refine ey_iload (cd_345 rfl) (jup_o rfl (jup_pi (lv := (jup (jup lv 11 (jI v8)) 7 (jI (x7 + (-1))))) (j := 11) (v := jI v26) (z := v8) rfl)) ?_
            refine ey_iload (cd_345 rfl) (jup_pi (lv := (jup (jup (jup lv 11 (jI v8)) 7 (jI (x7 + (-1)))) 12 (jI v26))) (j := 12) (v := jI v28) (z := v26) rfl) ?_
            refine ey_iload (cd_345 rfl) rfl ?_
            obtain ⟨v37, e38, e⟩ := jbind e
            refine ey_cs (s0 := [jI v28, jI v26, jI v8, jI ((x7 + (-1)) - 1), jR (some 140)]) (s1 := [jI ((x7 + (-1)) - 1), jR (some 140)]) (st' := [jI v37, jI ((x7 + (-1)) - 1), jR (some 140)]) (cd_345 rfl) mt_345 mt_346 rfl (by decide) rfl rfl (jsml_s rfl) rfl (mm_Runs.up (d := 1) (by decide) (ok_346 e38)) ?_
            exact jk_345_b349 hb h6 e K (jup (jup (jup (jup lv 11 (jI v8)) 7 (jI (x7 + (-1)))) 12 (jI v26)) 13 (jI v28)) f0 f1 f2 f3 f4 f5 (jup_o rfl (jup_o rfl (jup_pi (lv := (jup lv 11 (jI v8))) (j := 6) (v := jI (x7 + (-1))) (z := x6) f6))) rfl f8 f9 (jup_o rfl (jup_o rfl (jup_o rfl (jup_pi (lv := lv) (j := 10) (v := jI v8) (z := x10) f10))))
    · rw [if_neg q10] at e
      refine ey_nge (cd_345 rfl) rfl rfl (show jw 8 = 8 from by decide) q10 ?_
      refine ey_aload_n (cd_345 rfl) f0 ?_
      refine ey_getf_r (cd_345 rfl) mt_345 rfl rfl rfl (jhm_gr (q := 140) hb rfl) ?_
      refine ey_iload (cd_345 rfl) f7 ?_
      refine ey_iload (cd_345 rfl) rfl ?_
      by_cases q39 : (jw v8) = 0
      · rw [if_pos q39] at e
        refine ey_yne (cd_345 rfl) rfl rfl (fun w => w q39) ?_
        refine ey_aload_n (cd_345 rfl) f0 ?_
        refine ey_getf_r (cd_345 rfl) mt_345 rfl rfl rfl (jhm_gr (q := 137) hb rfl) ?_
        refine ey_iload (cd_345 rfl) (jup_pi (lv := lv) (j := 10) (v := jI v8) (z := x10) f10) ?_
        obtain ⟨v40, e41, e⟩ := jbind e
        refine ey_iald (cd_345 rfl) (jhm_ai hb h6 (by decide) rfl e41) ?_
        refine ey_goto (cd_345 rfl) rfl ?_
        exact jk_345_b169 hb h6 e K (jup lv 11 (jI v8)) f0 f1 f2 f3 f4 f5 f6 f7 f8 f9 (jup_pi (lv := lv) (j := 10) (v := jI v8) (z := x10) f10)
      · rw [if_neg q39] at e
        refine ey_zne (cd_345 rfl) rfl rfl q39 ?_
        refine ey_iload (cd_345 rfl) rfl ?_
        refine ey_iconst (cd_345 rfl) ?_
        by_cases q44 : (jw v8) = 1
        · rw [if_pos q44] at e
          refine ey_nne (cd_345 rfl) rfl rfl (show jw 1 = 1 from by decide) (fun w => w q44) ?_
          refine ey_iload (cd_345 rfl) f4 ?_
          refine ey_goto (cd_345 rfl) rfl ?_
          exact jk_345_b169 hb h6 e K (jup lv 11 (jI v8)) f0 f1 f2 f3 f4 f5 f6 f7 f8 f9 (jup_pi (lv := lv) (j := 10) (v := jI v8) (z := x10) f10)
        · rw [if_neg q44] at e
          refine ey_cne (cd_345 rfl) rfl rfl (show jw 1 = 1 from by decide) q44 ?_
          refine ey_iload (cd_345 rfl) rfl ?_
          refine ey_iconst (cd_345 rfl) ?_
          by_cases q45 : (jw v8) = 2
          · rw [if_pos q45] at e
            refine ey_nne (cd_345 rfl) rfl rfl (show jw 2 = 2 from by decide) (fun w => w q45) ?_
            refine ey_iload (cd_345 rfl) f5 ?_
            refine ey_goto (cd_345 rfl) rfl ?_
            exact jk_345_b169 hb h6 e K (jup lv 11 (jI v8)) f0 f1 f2 f3 f4 f5 f6 f7 f8 f9 (jup_pi (lv := lv) (j := 10) (v := jI v8) (z := x10) f10)
          · rw [if_neg q45] at e
            refine ey_cne (cd_345 rfl) rfl rfl (show jw 2 = 2 from by decide) q45 ?_
            refine ey_iload (cd_345 rfl) rfl ?_
            refine ey_iconst (cd_345 rfl) ?_
            by_cases q46 : (jw v8) = 3
            · rw [if_pos q46] at e
              refine ey_nne (cd_345 rfl) rfl rfl (show jw 3 = 3 from by decide) (fun w => w q46) ?_
              refine ey_iload (cd_345 rfl) f8 ?_
              refine ey_goto (cd_345 rfl) rfl ?_
              exact jk_345_b169 hb h6 e K (jup lv 11 (jI v8)) f0 f1 f2 f3 f4 f5 f6 f7 f8 f9 (jup_pi (lv := lv) (j := 10) (v := jI v8) (z := x10) f10)
            · rw [if_neg q46] at e
              refine ey_cne (cd_345 rfl) rfl rfl (show jw 3 = 3 from by decide) q46 ?_
              refine ey_iload (cd_345 rfl) rfl ?_
              refine ey_iconst (cd_345 rfl) ?_
              by_cases q47 : (jw v8) = 4
              · rw [if_pos q47] at e
                refine ey_nne (cd_345 rfl) rfl rfl (show jw 4 = 4 from by decide) (fun w => w q47) ?_
                refine ey_iload (cd_345 rfl) f9 ?_
                refine ey_goto (cd_345 rfl) rfl ?_
                exact jk_345_b169 hb h6 e K (jup lv 11 (jI v8)) f0 f1 f2 f3 f4 f5 f6 f7 f8 f9 (jup_pi (lv := lv) (j := 10) (v := jI v8) (z := x10) f10)
              · rw [if_neg q47] at e
                refine ey_cne (cd_345 rfl) rfl rfl (show jw 4 = 4 from by decide) q47 ?_
                refine ey_iload (cd_345 rfl) rfl ?_
                refine ey_iconst (cd_345 rfl) ?_
                by_cases q48 : (jw v8) = 5
                · rw [if_pos q48] at e
                  refine ey_nne (cd_345 rfl) rfl rfl (show jw 5 = 5 from by decide) (fun w => w q48) ?_
                  refine ey_iload_n (cd_345 rfl) f3 ?_
                  refine ey_goto (cd_345 rfl) rfl ?_
                  exact jk_345_b169 hb h6 e K (jup lv 11 (jI v8)) f0 f1 f2 f3 f4 f5 f6 f7 f8 f9 (jup_pi (lv := lv) (j := 10) (v := jI v8) (z := x10) f10)
                · rw [if_neg q48] at e
                  refine ey_cne (cd_345 rfl) rfl rfl (show jw 5 = 5 from by decide) q48 ?_
                  refine ey_iload (cd_345 rfl) rfl ?_
                  refine ey_bipush (cd_345 rfl) (by decide) ?_
                  by_cases q49 : (jw v8) = 6
                  · rw [if_pos q49] at e
                    refine ey_nne (cd_345 rfl) rfl rfl (show jw 6 = 6 from by decide) (fun w => w q49) ?_
                    refine ey_iload (cd_345 rfl) f6 ?_
                    refine ey_goto (cd_345 rfl) rfl ?_
                    exact jk_345_b169 hb h6 e K (jup lv 11 (jI v8)) f0 f1 f2 f3 f4 f5 f6 f7 f8 f9 (jup_pi (lv := lv) (j := 10) (v := jI v8) (z := x10) f10)
                  · rw [if_neg q49] at e
                    refine ey_cne (cd_345 rfl) rfl rfl (show jw 6 = 6 from by decide) q49 ?_
                    refine ey_aload_n (cd_345 rfl) f0 ?_
                    refine ey_getf_r (cd_345 rfl) mt_345 rfl rfl rfl (jhm_gr (q := 79) hb rfl) ?_
                    refine ey_aload_n (cd_345 rfl) f0 ?_
                    refine ey_iload_n (cd_345 rfl) f2 ?_
                    refine ey_iload_n (cd_345 rfl) f3 ?_
                    refine ey_iload (cd_345 rfl) f4 ?_
                    refine ey_iload (cd_345 rfl) f5 ?_
                    obtain ⟨v50, e51, e⟩ := jbind e
                    refine ey_cv (s0 := [jI x5, jI x4, jI x3, jI x2, jR (some 76), jR (some 79), jI x7, jR (some 140)]) (s1 := [jR (some 79), jI x7, jR (some 140)]) (st' := [jI v50, jR (some 79), jI x7, jR (some 140)]) (cd_345 rfl) mt_345 mt_212 rfl rfl rfl (jhm_is hb) rfl (jsml_s rfl) rfl (ok_212 hb h6 e51) ?_
                    obtain ⟨v52, e53, e⟩ := jbind e
                    refine ey_iald (cd_345 rfl) (jhm_ai hb h6 (by decide) rfl e53) ?_
                    exact jk_345_b169 hb h6 e K (jup lv 11 (jI v8)) f0 f1 f2 f3 f4 f5 f6 f7 f8 f9 (jup_pi (lv := lv) (j := 10) (v := jI v8) (z := x10) f10)
theorem jk_345_l34 {L : Nat} {xs : Nat → Int32} {b : jH} (hb : 152 ≤ b.1) (h6 : b.1 ≤ 1000000) {x1 : Int} {x2 : Int} {x3 : Int} {x4 : Int} {x5 : Int} {x6 : Int} {x8 : Int} {x9 : Int} {x7 : Int} {x10 : Int} {m : jM} {x : jM} {r : mm_R} (e : jd_345_l34 x1 x2 x3 x4 x5 x6 x8 x9 x7 x10 m = some x) (K : (∀ lv : jL, lv 0 = some (jR (some 76)) → ey (mm_xt L xs) 2 345 356 lv [] (jhm b x) r)) : ∀ lv : jL, lv 0 = some (jR (some 76)) → lv 1 = some (jI x1) → lv 2 = some (jI x2) → lv 3 = some (jI x3) → lv 4 = some (jI x4) → lv 5 = some (jI x5) → lv 6 = some (jI x6) → lv 7 = some (jI x7) → lv 8 = some (jI x8) → lv 9 = some (jI x9) → lv 10 = some (jI x10) → ey (mm_xt L xs) 2 345 34 lv [] (jhm b m) r := by
  unfold jd_345_l34 at e
  exact jlp_ok2 (P := fun s => ∀ lv : jL, lv 0 = some (jR (some 76)) → lv 1 = some (jI x1) → lv 2 = some (jI x2) → lv 3 = some (jI x3) → lv 4 = some (jI x4) → lv 5 = some (jI x5) → lv 6 = some (jI x6) → lv 7 = some (jI s.1) → lv 8 = some (jI x8) → lv 9 = some (jI x9) → lv 10 = some (jI s.2.1) → ey (mm_xt L xs) 2 345 34 lv [] (jhm b s.2.2) r) (Q := fun x => (∀ lv : jL, lv 0 = some (jR (some 76)) → ey (mm_xt L xs) 2 345 356 lv [] (jhm b x) r)) (fun s q hq hk => jk_345_s34 hb h6 hq hk) jfu _ x e K
set_option maxRecDepth 100000 in
theorem ok_345 {L : Nat} {xs : Nat → Int32} {b : jH} (hb : 152 ≤ b.1) (h6 : b.1 ≤ 1000000) {p0 : Int} {p1 : Int} {p2 : Int} {p3 : Int} {p4 : Int} {p5 : Int} {m : jM} {o : (Int × jM)} (e : jd_345 p0 p1 p2 p3 p4 p5 m = some o) : mm_Runs (mm_xt L xs) 3 345 ([jR (some 76), jI p0, jI p1, jI p2, jI p3, jI p4, jI p5].map jcv) (jaH (jhm b m)) (.inl (some (jcv (jI o.1)), jaH (jhm b o.2))) := by
  refine ey_run0 _ mt_345 (jsl_s rfl) ?_
  unfold jd_345 at e
  refine ey_iconst (cd_345 rfl) ?_
  refine ey_istore (cd_345 rfl) mt_345 rfl ?_
  refine ey_aload_n (cd_345 rfl) rfl ?_
  refine ey_getf_r (cd_345 rfl) mt_345 rfl rfl rfl (jhm_gr (q := 77) hb rfl) ?_
  refine ey_iload_n (cd_345 rfl) rfl ?_
  obtain ⟨v1, e2, e⟩ := jbind e
  refine ey_iald (cd_345 rfl) (jhm_ai hb h6 (by decide) rfl e2) ?_
  refine ey_iload_n (cd_345 rfl) rfl ?_
  refine ey_cs (s0 := [jI p2, jI v1]) (s1 := []) (st' := [jI (jd_206 v1 p2)]) (cd_345 rfl) mt_345 mt_206 rfl (by decide) rfl rfl (jsml_s rfl) rfl (mm_Runs.up (d := 1) (by decide) (ok_206 )) ?_
  refine ey_istore (cd_345 rfl) mt_345 rfl ?_
  refine ey_aload_n (cd_345 rfl) rfl ?_
  refine ey_getf_r (cd_345 rfl) mt_345 rfl rfl rfl (jhm_gr (q := 78) hb rfl) ?_
  refine ey_iload_n (cd_345 rfl) rfl ?_
  obtain ⟨v3, e4, e⟩ := jbind e
  refine ey_iald (cd_345 rfl) (jhm_ai hb h6 (by decide) rfl e4) ?_
  refine ey_iload_n (cd_345 rfl) rfl ?_
  refine ey_cs (s0 := [jI p2, jI v3]) (s1 := []) (st' := [jI (jd_206 v3 p2)]) (cd_345 rfl) mt_345 mt_206 rfl (by decide) rfl rfl (jsml_s rfl) rfl (mm_Runs.up (d := 1) (by decide) (ok_206 )) ?_
  refine ey_istore (cd_345 rfl) mt_345 rfl ?_
  refine ey_sipush (cd_345 rfl) (by decide) ?_
  refine ey_iload_n (cd_345 rfl) rfl ?_
  refine ey_imul (cd_345 rfl) ?_
  refine ey_istore (cd_345 rfl) mt_345 rfl ?_
  obtain ⟨x54, e55, e⟩ := jbind e
  refine jk_345_l34 hb h6 e55 ?_ (jup (jup (jup (jup (jlf (jla 0 [jR (some 76), jI p0, jI p1, jI p2, jI p3, jI p4, jI p5])) 7 (jI 0)) 8 (jI (jd_206 v1 p2))) 9 (jI (jd_206 v3 p2))) 10 (jI (400 * p0))) rfl rfl rfl rfl rfl rfl (jup_o rfl (jup_o rfl (jup_o rfl (jup_pi (lv := (jlf (jla 0 [jR (some 76), jI p0, jI p1, jI p2, jI p3, jI p4, jI p5]))) (j := 6) (v := jI 0) (z := p5) rfl)))) (jup_o rfl (jup_o rfl (jup_pi (lv := (jup (jlf (jla 0 [jR (some 76), jI p0, jI p1, jI p2, jI p3, jI p4, jI p5])) 7 (jI 0))) (j := 7) (v := jI (jd_206 v1 p2)) (z := 0) rfl))) (jup_o rfl (jup_pi (lv := (jup (jup (jlf (jla 0 [jR (some 76), jI p0, jI p1, jI p2, jI p3, jI p4, jI p5])) 7 (jI 0)) 8 (jI (jd_206 v1 p2)))) (j := 8) (v := jI (jd_206 v3 p2)) (z := (jd_206 v1 p2)) rfl)) (jup_pi (lv := (jup (jup (jup (jlf (jla 0 [jR (some 76), jI p0, jI p1, jI p2, jI p3, jI p4, jI p5])) 7 (jI 0)) 8 (jI (jd_206 v1 p2))) 9 (jI (jd_206 v3 p2)))) (j := 9) (v := jI (400 * p0)) (z := (jd_206 v3 p2)) rfl) rfl
  intro lv g0
  refine ey_aload_n (cd_345 rfl) g0 ?_
  refine ey_getf_r (cd_345 rfl) mt_345 rfl rfl rfl (jhm_gr (q := 140) hb rfl) ?_
  refine ey_iconst (cd_345 rfl) ?_
  obtain ⟨v56, e57, e⟩ := jbind e
  refine ey_iald (cd_345 rfl) (jhm_ai hb h6 (by decide) rfl e57) ?_
  cases e
  exact ey_reti (cd_345 rfl) mt_345 rfl
