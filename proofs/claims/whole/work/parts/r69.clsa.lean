theorem cd_0 {pc : Nat} {i : Instr × Nat} (h : mm_lk mm_c0 pc = some i) : mm_cd 0 pc = some i := h
theorem mt_0 : mm_MT 0 = (0, 1, none, 0, 2, []) := rfl
set_option maxRecDepth 100000 in
theorem ok_0 {L : Nat} {xs : Nat → Int32} {this : Nat}  {h : jH} {o : jH} (e : jd_0 this  h = some o) : mm_Runs (mm_xt L xs) 1 0 ([jR (some this)].map jcv) (jaH h) (.inl (none, jaH o)) := by
  refine ey_run0 _ mt_0 (jsl_s rfl) ?_
  unfold jd_0 at e
  refine ey_aload_n (cd_0 rfl) rfl ?_
  refine ey_oini (cd_0 rfl) mt_0 rfl (jsml_s rfl) ?_
  refine ey_aload_n (cd_0 rfl) rfl ?_
  refine ey_null (cd_0 rfl) ?_
  obtain ⟨h1, e2, e⟩ := jbind e
  refine ey_putf_r (cd_0 rfl) mt_0 rfl rfl rfl e2 ?_
  refine ey_aload_n (cd_0 rfl) rfl ?_
  refine ey_iconst (cd_0 rfl) ?_
  obtain ⟨h3, e4, e⟩ := jbind e
  refine ey_putf_i (cd_0 rfl) mt_0 rfl rfl rfl e4 ?_
  refine ey_aload_n (cd_0 rfl) rfl ?_
  refine ey_iconst (cd_0 rfl) ?_
  obtain ⟨h5, e6, e⟩ := jbind e
  refine ey_putf_i (cd_0 rfl) mt_0 rfl rfl rfl e6 ?_
  refine ey_aload_n (cd_0 rfl) rfl ?_
  refine ey_iconst (cd_0 rfl) ?_
  obtain ⟨h7, e8, e⟩ := jbind e
  refine ey_putf_i (cd_0 rfl) mt_0 rfl rfl rfl e8 ?_
  cases e
  exact ey_retv (cd_0 rfl) mt_0 rfl
theorem cd_1 {pc : Nat} {i : Instr × Nat} (h : mm_lk mm_c1 pc = some i) : mm_cd 1 pc = some i := h
theorem mt_1 : mm_MT 1 = (0, 4, none, 3, 0, []) := rfl
set_option maxRecDepth 100000 in
theorem ok_1 {L : Nat} {xs : Nat → Int32} {this : Nat} {p0 : Option Nat} {p1 : Int} {p2 : Int} {h : jH} {o : jH} (e : jd_1 this p0 p1 p2 h = some o) : mm_Runs (mm_xt L xs) 1 1 ([jR (some this), jR p0, jI p1, jI p2].map jcv) (jaH h) (.inl (none, jaH o)) := by
  refine ey_run0 _ mt_1 (jsl_s rfl) ?_
  unfold jd_1 at e
  refine ey_aload_n (cd_1 rfl) rfl ?_
  refine ey_aload_n (cd_1 rfl) rfl ?_
  obtain ⟨h1, e2, e⟩ := jbind e
  refine ey_putf_r (cd_1 rfl) mt_1 rfl rfl rfl e2 ?_
  refine ey_aload_n (cd_1 rfl) rfl ?_
  refine ey_bipush (cd_1 rfl) (by decide) ?_
  refine ey_iload_n (cd_1 rfl) rfl ?_
  refine ey_imul (cd_1 rfl) ?_
  obtain ⟨h3, e4, e⟩ := jbind e
  refine ey_putf_i (cd_1 rfl) mt_1 rfl rfl rfl e4 ?_
  refine ey_aload_n (cd_1 rfl) rfl ?_
  refine ey_bipush (cd_1 rfl) (by decide) ?_
  refine ey_iload_n (cd_1 rfl) rfl ?_
  refine ey_iload_n (cd_1 rfl) rfl ?_
  refine ey_iadd (cd_1 rfl) ?_
  refine ey_imul (cd_1 rfl) ?_
  obtain ⟨h5, e6, e⟩ := jbind e
  refine ey_putf_i (cd_1 rfl) mt_1 rfl rfl rfl e6 ?_
  refine ey_aload_n (cd_1 rfl) rfl ?_
  refine ey_iconst (cd_1 rfl) ?_
  obtain ⟨h7, e8, e⟩ := jbind e
  refine ey_putf_i (cd_1 rfl) mt_1 rfl rfl rfl e8 ?_
  cases e
  exact ey_retv (cd_1 rfl) mt_1 rfl
theorem cd_4 {pc : Nat} {i : Instr × Nat} (h : mm_lk mm_c4 pc = some i) : mm_cd 4 pc = some i := h
theorem mt_4 : mm_MT 4 = (0, 4, some .int, 1, 0, []) := rfl
set_option maxRecDepth 100000 in
theorem jk_4_s24 {L : Nat} {xs : Nat → Int32} {this : Nat} {x1 : Int} {x2 : Int} {x3 : Int} {h : jH} {o : ((Int × Int × jH) ⊕ (Int × jH))} {r : mm_R} (e : jd_4_s24 this x1 x2 x3 h = some o) (K : jsm (fun s => (∀ lv : jL, lv 0 = some (jR (some this)) → lv 1 = some (jI x1) → lv 2 = some (jI s.1) → lv 3 = some (jI s.2.1) → ey (mm_xt L xs) 0 4 24 lv [] s.2.2 r)) (fun x => (∀ lv : jL, lv 2 = some (jI x.1) → ey (mm_xt L xs) 0 4 74 lv [] x.2 r)) o) : ∀ lv : jL, lv 0 = some (jR (some this)) → lv 1 = some (jI x1) → lv 2 = some (jI x2) → lv 3 = some (jI x3) → ey (mm_xt L xs) 0 4 24 lv [] h r := by
  intro lv f0 f1 f2 f3
  unfold jd_4_s24 at e
  refine ey_iload_n (cd_4 rfl) f3 ?_
  refine ey_iload_n (cd_4 rfl) f1 ?_
  by_cases q6 : (jw x1) ≤ (jw x3)
  · rw [if_pos q6] at e
    refine ey_cge (cd_4 rfl) rfl rfl rfl q6 ?_
    cases e
    exact K lv f2
  · rw [if_neg q6] at e
    refine ey_nge (cd_4 rfl) rfl rfl rfl q6 ?_
    refine ey_iconst (cd_4 rfl) ?_
    refine ey_iload_n (cd_4 rfl) f2 ?_
    refine ey_imul (cd_4 rfl) ?_
    refine ey_aload_n (cd_4 rfl) f0 ?_
    obtain ⟨r7, e8, e⟩ := jbind e
    refine ey_getf_r (cd_4 rfl) mt_4 rfl rfl rfl e8 ?_
    refine ey_aload_n (cd_4 rfl) f0 ?_
    obtain ⟨v9, e10, e⟩ := jbind e
    refine ey_getf_i (cd_4 rfl) mt_4 rfl rfl rfl e10 ?_
    refine ey_iconst (cd_4 rfl) ?_
    refine ey_ishr (cd_4 rfl) ?_
    obtain ⟨a11, e12, e⟩ := jbind e
    refine ey_rs (s0 := [jI (jshr v9 3), jR r7, jI (2 * x2)]) (s1 := [jI (jshr v9 3), jR (some a11), jI (2 * x2)]) (by rw [e12]) ?_
    obtain ⟨v13, e14, e⟩ := jbind e
    refine ey_bald (cd_4 rfl) e14 ?_
    refine ey_bipush (cd_4 rfl) (by decide) ?_
    refine ey_aload_n (cd_4 rfl) f0 ?_
    obtain ⟨v15, e16, e⟩ := jbind e
    refine ey_getf_i (cd_4 rfl) mt_4 rfl rfl rfl e16 ?_
    refine ey_bipush (cd_4 rfl) (by decide) ?_
    refine ey_iand (cd_4 rfl) ?_
    refine ey_isub (cd_4 rfl) ?_
    refine ey_ishr (cd_4 rfl) ?_
    refine ey_iconst (cd_4 rfl) ?_
    refine ey_iand (cd_4 rfl) ?_
    refine ey_iadd (cd_4 rfl) ?_
    obtain ⟨z17, e18, e⟩ := jbind e
    refine ey_rs (s0 := [jI ((2 * x2) + (jand (jshr v13 (7 - (jand v15 7))) 1))]) (s1 := [jI z17]) (by rw [show ((2 * x2) + (jand (jshr v13 (7 - (jand v15 7))) 1)) = z17 from Option.some.inj e18]) ?_
    refine ey_istore_n (cd_4 rfl) mt_4 rfl ?_
    refine ey_aload_n (cd_4 rfl) f0 ?_
    refine ey_dup (cd_4 rfl) rfl ?_
    obtain ⟨v19, e20, e⟩ := jbind e
    refine ey_getf_i (cd_4 rfl) mt_4 rfl rfl rfl e20 ?_
    refine ey_iconst (cd_4 rfl) ?_
    refine ey_iadd (cd_4 rfl) ?_
    obtain ⟨h21, e22, e⟩ := jbind e
    refine ey_putf_i (cd_4 rfl) mt_4 rfl rfl rfl e22 ?_
    refine ey_iinc (cd_4 rfl) mt_4 rfl f3 ?_
    refine ey_goto (cd_4 rfl) rfl ?_
    cases e
    exact K (jup (jup lv 2 (jI z17)) 3 (jI (x3 + 1))) f0 (jup_o rfl (jup_pi (lv := lv) (j := 1) (v := jI z17) (z := x1) f1)) (jup_pi (lv := (jup lv 2 (jI z17))) (j := 2) (v := jI (x3 + 1)) (z := z17) rfl) rfl
theorem jk_4_l24 {L : Nat} {xs : Nat → Int32} {this : Nat} {x1 : Int} {x2 : Int} {x3 : Int} {h : jH} {x : (Int × jH)} {r : mm_R} (e : jd_4_l24 this x1 x2 x3 h = some x) (K : (∀ lv : jL, lv 2 = some (jI x.1) → ey (mm_xt L xs) 0 4 74 lv [] x.2 r)) : ∀ lv : jL, lv 0 = some (jR (some this)) → lv 1 = some (jI x1) → lv 2 = some (jI x2) → lv 3 = some (jI x3) → ey (mm_xt L xs) 0 4 24 lv [] h r := by
  unfold jd_4_l24 at e
  exact jlp_ok2 (P := fun s => ∀ lv : jL, lv 0 = some (jR (some this)) → lv 1 = some (jI x1) → lv 2 = some (jI s.1) → lv 3 = some (jI s.2.1) → ey (mm_xt L xs) 0 4 24 lv [] s.2.2 r) (Q := fun x => (∀ lv : jL, lv 2 = some (jI x.1) → ey (mm_xt L xs) 0 4 74 lv [] x.2 r)) (fun s q hq hk => jk_4_s24 hq hk) jfu _ x e K
set_option maxRecDepth 100000 in
theorem ok_4 {L : Nat} {xs : Nat → Int32} {this : Nat} {p0 : Int} {h : jH} {o : (Int × jH)} (e : jd_4 this p0 h = some o) : mm_Runs (mm_xt L xs) 1 4 ([jR (some this), jI p0].map jcv) (jaH h) (.inl (some (jcv (jI o.1)), jaH o.2)) := by
  refine ey_run0 _ mt_4 (jsl_s rfl) ?_
  unfold jd_4 at e
  refine ey_aload_n (cd_4 rfl) rfl ?_
  obtain ⟨v1, e2, e⟩ := jbind e
  refine ey_getf_i (cd_4 rfl) mt_4 rfl rfl rfl e2 ?_
  refine ey_aload_n (cd_4 rfl) rfl ?_
  obtain ⟨v3, e4, e⟩ := jbind e
  refine ey_getf_i (cd_4 rfl) mt_4 rfl rfl rfl e4 ?_
  refine ey_isub (cd_4 rfl) ?_
  refine ey_iload_n (cd_4 rfl) rfl ?_
  by_cases q5 : (jw p0) ≤ (jw (v1 - v3))
  · rw [if_pos q5] at e
    refine ey_cge (cd_4 rfl) rfl rfl rfl q5 ?_
    refine ey_iconst (cd_4 rfl) ?_
    refine ey_istore_n (cd_4 rfl) mt_4 rfl ?_
    refine ey_iconst (cd_4 rfl) ?_
    refine ey_istore_n (cd_4 rfl) mt_4 rfl ?_
    obtain ⟨x23, e24, e⟩ := jbind e
    refine jk_4_l24 e24 ?_ (jup (jup (jlf (jla 0 [jR (some this), jI p0])) 2 (jI 0)) 3 (jI 0)) rfl (jup_o rfl (jup_pi (lv := (jlf (jla 0 [jR (some this), jI p0]))) (j := 1) (v := jI 0) (z := p0) rfl)) (jup_pi (lv := (jup (jlf (jla 0 [jR (some this), jI p0])) 2 (jI 0))) (j := 2) (v := jI 0) (z := 0) rfl) rfl
    intro lv g2
    refine ey_iload_n (cd_4 rfl) g2 ?_
    cases e
    exact ey_reti (cd_4 rfl) mt_4 rfl
  · rw [if_neg q5] at e
    refine ey_nge (cd_4 rfl) rfl rfl rfl q5 ?_
    refine ey_aload_n (cd_4 rfl) rfl ?_
    refine ey_iconst (cd_4 rfl) ?_
    obtain ⟨h25, e26, e⟩ := jbind e
    refine ey_putf_i (cd_4 rfl) mt_4 rfl rfl rfl e26 ?_
    refine ey_iconst (cd_4 rfl) ?_
    cases e
    exact ey_reti (cd_4 rfl) mt_4 rfl
theorem cd_2 {pc : Nat} {i : Instr × Nat} (h : mm_lk mm_c2 pc = some i) : mm_cd 2 pc = some i := h
theorem mt_2 : mm_MT 2 = (0, 2, some .int, 0, 0, []) := rfl
set_option maxRecDepth 100000 in
theorem jk_2_s2 {L : Nat} {xs : Nat → Int32} {this : Nat} {x1 : Int} {h : jH} {o : ((Int × jH) ⊕ (Int × jH))} {r : mm_R} (e : jd_2_s2 this x1 h = some o) (K : jsm (fun s => (∀ lv : jL, lv 0 = some (jR (some this)) → lv 1 = some (jI s.1) → ey (mm_xt L xs) 1 2 2 lv [] s.2 r)) (fun x => (∀ lv : jL, lv 0 = some (jR (some this)) → lv 1 = some (jI x.1) → ey (mm_xt L xs) 1 2 62 lv [] x.2 r)) o) : ∀ lv : jL, lv 0 = some (jR (some this)) → lv 1 = some (jI x1) → ey (mm_xt L xs) 1 2 2 lv [] h r := by
  intro lv f0 f1
  unfold jd_2_s2 at e
  refine ey_aload_n (cd_2 rfl) f0 ?_
  obtain ⟨v1, e2, e⟩ := jbind e
  refine ey_getf_i (cd_2 rfl) mt_2 rfl rfl rfl e2 ?_
  refine ey_aload_n (cd_2 rfl) f0 ?_
  obtain ⟨v3, e4, e⟩ := jbind e
  refine ey_getf_i (cd_2 rfl) mt_2 rfl rfl rfl e4 ?_
  by_cases q5 : (jw v3) ≤ (jw v1)
  · rw [if_pos q5] at e
    refine ey_cge (cd_2 rfl) rfl rfl rfl q5 ?_
    cases e
    exact K lv f0 f1
  · rw [if_neg q5] at e
    refine ey_nge (cd_2 rfl) rfl rfl rfl q5 ?_
    refine ey_iload_n (cd_2 rfl) f1 ?_
    refine ey_bipush (cd_2 rfl) (by decide) ?_
    by_cases q6 : 15 ≤ (jw x1)
    · rw [if_pos q6] at e
      refine ey_cge (cd_2 rfl) rfl rfl (show jw 15 = 15 from by decide) q6 ?_
      cases e
      exact K lv f0 f1
    · rw [if_neg q6] at e
      refine ey_nge (cd_2 rfl) rfl rfl (show jw 15 = 15 from by decide) q6 ?_
      refine ey_aload_n (cd_2 rfl) f0 ?_
      obtain ⟨r7, e8, e⟩ := jbind e
      refine ey_getf_r (cd_2 rfl) mt_2 rfl rfl rfl e8 ?_
      refine ey_aload_n (cd_2 rfl) f0 ?_
      obtain ⟨v9, e10, e⟩ := jbind e
      refine ey_getf_i (cd_2 rfl) mt_2 rfl rfl rfl e10 ?_
      refine ey_iconst (cd_2 rfl) ?_
      refine ey_ishr (cd_2 rfl) ?_
      obtain ⟨a11, e12, e⟩ := jbind e
      refine ey_rs (s0 := [jI (jshr v9 3), jR r7]) (s1 := [jI (jshr v9 3), jR (some a11)]) (by rw [e12]) ?_
      obtain ⟨v13, e14, e⟩ := jbind e
      refine ey_bald (cd_2 rfl) e14 ?_
      refine ey_bipush (cd_2 rfl) (by decide) ?_
      refine ey_aload_n (cd_2 rfl) f0 ?_
      obtain ⟨v15, e16, e⟩ := jbind e
      refine ey_getf_i (cd_2 rfl) mt_2 rfl rfl rfl e16 ?_
      refine ey_bipush (cd_2 rfl) (by decide) ?_
      refine ey_iand (cd_2 rfl) ?_
      refine ey_isub (cd_2 rfl) ?_
      refine ey_ishr (cd_2 rfl) ?_
      refine ey_iconst (cd_2 rfl) ?_
      refine ey_iand (cd_2 rfl) ?_
      by_cases q17 : (jw (jand (jshr v13 (7 - (jand v15 7))) 1)) = 0
      · rw [if_pos q17] at e
        refine ey_yne (cd_2 rfl) rfl rfl (fun w => w q17) ?_
        refine ey_iinc (cd_2 rfl) mt_2 rfl f1 ?_
        refine ey_aload_n (cd_2 rfl) (jup_pr (lv := lv) (j := 0) (v := jI (x1 + 1)) (z := (some this)) f0) ?_
        refine ey_dup (cd_2 rfl) rfl ?_
        obtain ⟨v18, e19, e⟩ := jbind e
        refine ey_getf_i (cd_2 rfl) mt_2 rfl rfl rfl e19 ?_
        refine ey_iconst (cd_2 rfl) ?_
        refine ey_iadd (cd_2 rfl) ?_
        obtain ⟨h20, e21, e⟩ := jbind e
        refine ey_putf_i (cd_2 rfl) mt_2 rfl rfl rfl e21 ?_
        refine ey_goto (cd_2 rfl) rfl ?_
        cases e
        exact K (jup lv 1 (jI (x1 + 1))) (jup_pr (lv := lv) (j := 0) (v := jI (x1 + 1)) (z := (some this)) f0) rfl
      · rw [if_neg q17] at e
        refine ey_zne (cd_2 rfl) rfl rfl q17 ?_
        cases e
        exact K lv f0 f1
theorem jk_2_l2 {L : Nat} {xs : Nat → Int32} {this : Nat} {x1 : Int} {h : jH} {x : (Int × jH)} {r : mm_R} (e : jd_2_l2 this x1 h = some x) (K : (∀ lv : jL, lv 0 = some (jR (some this)) → lv 1 = some (jI x.1) → ey (mm_xt L xs) 1 2 62 lv [] x.2 r)) : ∀ lv : jL, lv 0 = some (jR (some this)) → lv 1 = some (jI x1) → ey (mm_xt L xs) 1 2 2 lv [] h r := by
  unfold jd_2_l2 at e
  exact jlp_ok2 (P := fun s => ∀ lv : jL, lv 0 = some (jR (some this)) → lv 1 = some (jI s.1) → ey (mm_xt L xs) 1 2 2 lv [] s.2 r) (Q := fun x => (∀ lv : jL, lv 0 = some (jR (some this)) → lv 1 = some (jI x.1) → ey (mm_xt L xs) 1 2 62 lv [] x.2 r)) (fun s q hq hk => jk_2_s2 hq hk) jfu _ x e K
set_option maxRecDepth 100000 in
theorem ok_2 {L : Nat} {xs : Nat → Int32} {this : Nat}  {h : jH} {o : (Int × jH)} (e : jd_2 this  h = some o) : mm_Runs (mm_xt L xs) 2 2 ([jR (some this)].map jcv) (jaH h) (.inl (some (jcv (jI o.1)), jaH o.2)) := by
  refine ey_run0 _ mt_2 (jsl_s rfl) ?_
  unfold jd_2 at e
  refine ey_iconst (cd_2 rfl) ?_
  refine ey_istore_n (cd_2 rfl) mt_2 rfl ?_
  obtain ⟨x22, e23, e⟩ := jbind e
  refine jk_2_l2 e23 ?_ (jup (jlf (jla 0 [jR (some this)])) 1 (jI 0)) (jup_pr (lv := (jlf (jla 0 [jR (some this)]))) (j := 0) (v := jI 0) (z := (some this)) rfl) rfl
  intro lv g0 g1
  refine ey_iload_n (cd_2 rfl) g1 ?_
  refine ey_bipush (cd_2 rfl) (by decide) ?_
  by_cases q24 : (jw x22.1) = 15
  · rw [if_pos q24] at e
    refine ey_nne (cd_2 rfl) rfl rfl (show jw 15 = 15 from by decide) (fun w => w q24) ?_
    refine ey_aload_n (cd_2 rfl) g0 ?_
    refine ey_bipush (cd_2 rfl) (by decide) ?_
    obtain ⟨h25, e26, e⟩ := jbind e
    refine ey_putf_i (cd_2 rfl) mt_2 rfl rfl rfl e26 ?_
    refine ey_iconst (cd_2 rfl) ?_
    cases e
    exact ey_reti (cd_2 rfl) mt_2 rfl
  · rw [if_neg q24] at e
    refine ey_cne (cd_2 rfl) rfl rfl (show jw 15 = 15 from by decide) q24 ?_
    refine ey_aload_n (cd_2 rfl) g0 ?_
    refine ey_iload_n (cd_2 rfl) g1 ?_
    refine ey_iconst (cd_2 rfl) ?_
    refine ey_iadd (cd_2 rfl) ?_
    obtain ⟨u27, e28, e⟩ := jbind e
    obtain ⟨q29, e30, e⟩ := jbind e
    refine ey_cv (s0 := [jI (x22.1 + 1), jR (some this)]) (s1 := []) (st' := [jI q29.1]) (cd_2 rfl) mt_2 mt_4 rfl rfl rfl (jck_s e28) rfl (jsml_s rfl) rfl (ok_4 e30) ?_
    refine ey_iconst (cd_2 rfl) ?_
    refine ey_isub (cd_2 rfl) ?_
    cases e
    exact ey_reti (cd_2 rfl) mt_2 rfl
theorem cd_3 {pc : Nat} {i : Instr × Nat} (h : mm_lk mm_c3 pc = some i) : mm_cd 3 pc = some i := h
theorem mt_3 : mm_MT 3 = (0, 1, some .int, 0, 0, []) := rfl
set_option maxRecDepth 100000 in
theorem ok_3 {L : Nat} {xs : Nat → Int32} {this : Nat}  {h : jH} {o : (Int × jH)} (e : jd_3 this  h = some o) : mm_Runs (mm_xt L xs) 2 3 ([jR (some this)].map jcv) (jaH h) (.inl (some (jcv (jI o.1)), jaH o.2)) := by
  refine ey_run0 _ mt_3 (jsl_s rfl) ?_
  unfold jd_3 at e
  refine ey_aload_n (cd_3 rfl) rfl ?_
  refine ey_bipush (cd_3 rfl) (by decide) ?_
  obtain ⟨u1, e2, e⟩ := jbind e
  obtain ⟨q3, e4, e⟩ := jbind e
  refine ey_cv (s0 := [jI 8, jR (some this)]) (s1 := []) (st' := [jI q3.1]) (cd_3 rfl) mt_3 mt_4 rfl rfl rfl (jck_s e2) rfl (jsml_s rfl) rfl (ok_4 e4) ?_
  cases e
  exact ey_reti (cd_3 rfl) mt_3 rfl
theorem cd_5 {pc : Nat} {i : Instr × Nat} (h : mm_lk mm_c5 pc = some i) : mm_cd 5 pc = some i := h
theorem mt_5 : mm_MT 5 = (0, 2, some .boolean, 0, 0, []) := rfl
set_option maxRecDepth 100000 in
theorem jk_5_b33 {L : Nat} {xs : Nat → Int32} {this : Nat} {y0 : Int} {h : jH} {o : (Int × jH)} (e : jd_5_b33 this y0 h = some o) : ∀ lv : jL, ey (mm_xt L xs) 1 5 33 lv [jI y0] h (.inl (some (jcv (jI o.1)), jaH o.2)) := by
  intro lv 
  unfold jd_5_b33 at e
  obtain ⟨u6, e7, e⟩ := jbind e
  cases e
  exact ey_retz (cd_5 rfl) mt_5 rfl (jbc_s e7)
set_option maxRecDepth 100000 in
theorem ok_5 {L : Nat} {xs : Nat → Int32} {this : Nat}  {h : jH} {o : (Int × jH)} (e : jd_5 this  h = some o) : mm_Runs (mm_xt L xs) 2 5 ([jR (some this)].map jcv) (jaH h) (.inl (some (jcv (jI o.1)), jaH o.2)) := by
  refine ey_run0 _ mt_5 (jsl_s rfl) ?_
  unfold jd_5 at e
  refine ey_aload_n (cd_5 rfl) rfl ?_
  obtain ⟨v1, e2, e⟩ := jbind e
  refine ey_getf_i (cd_5 rfl) mt_5 rfl rfl rfl e2 ?_
  refine ey_aload_n (cd_5 rfl) rfl ?_
  obtain ⟨v3, e4, e⟩ := jbind e
  refine ey_getf_i (cd_5 rfl) mt_5 rfl rfl rfl e4 ?_
  refine ey_isub (cd_5 rfl) ?_
  refine ey_istore_n (cd_5 rfl) mt_5 rfl ?_
  refine ey_iload_n (cd_5 rfl) rfl ?_
  by_cases q5 : (jw (v1 - v3)) = 0
  · rw [if_pos q5] at e
    refine ey_zeq (cd_5 rfl) rfl rfl q5 ?_
    refine ey_iconst (cd_5 rfl) ?_
    refine ey_goto (cd_5 rfl) rfl ?_
    exact jk_5_b33 e (jup (jlf (jla 0 [jR (some this)])) 1 (jI (v1 - v3))) 
  · rw [if_neg q5] at e
    refine ey_yeq (cd_5 rfl) rfl rfl q5 ?_
    refine ey_iload_n (cd_5 rfl) rfl ?_
    refine ey_bipush (cd_5 rfl) (by decide) ?_
    by_cases q8 : 8 ≤ (jw (v1 - v3))
    · rw [if_pos q8] at e
      refine ey_cge (cd_5 rfl) rfl rfl (show jw 8 = 8 from by decide) q8 ?_
      refine ey_iconst (cd_5 rfl) ?_
      exact jk_5_b33 e (jup (jlf (jla 0 [jR (some this)])) 1 (jI (v1 - v3))) 
    · rw [if_neg q8] at e
      refine ey_nge (cd_5 rfl) rfl rfl (show jw 8 = 8 from by decide) q8 ?_
      refine ey_aload_n (cd_5 rfl) (jup_pr (lv := (jlf (jla 0 [jR (some this)]))) (j := 0) (v := jI (v1 - v3)) (z := (some this)) rfl) ?_
      refine ey_iload_n (cd_5 rfl) rfl ?_
      obtain ⟨u9, e10, e⟩ := jbind e
      obtain ⟨q11, e12, e⟩ := jbind e
      refine ey_cv (s0 := [jI (v1 - v3), jR (some this)]) (s1 := []) (st' := [jI q11.1]) (cd_5 rfl) mt_5 mt_4 rfl rfl rfl (jck_s e10) rfl (jsml_s rfl) rfl (ok_4 e12) ?_
      have K13 : ∀ lv : jL, ey (mm_xt L xs) 1 5 33 lv [jI (if (jw q11.1) = 0 then 1 else 0)] q11.2 (.inl (some (jcv (jI o.1)), jaH o.2)) := by
        intro lv 
        exact jk_5_b33 e lv 
      by_cases q14 : (jw q11.1) = 0
      · refine ey_yne (cd_5 rfl) rfl rfl (fun w => w q14) ?_
        refine ey_iconst (cd_5 rfl) ?_
        refine ey_goto (cd_5 rfl) rfl ?_
        exact ey_rs (s0 := [jI 1]) (s1 := [jI (if (jw q11.1) = 0 then 1 else 0)]) (by rw [show ((if (jw q11.1) = 0 then 1 else 0) : Int) = 1 from (if_pos q14)]) (K13 (jup (jlf (jla 0 [jR (some this)])) 1 (jI (v1 - v3))) )
      · refine ey_zne (cd_5 rfl) rfl rfl q14 ?_
        refine ey_iconst (cd_5 rfl) ?_
        exact ey_rs (s0 := [jI 0]) (s1 := [jI (if (jw q11.1) = 0 then 1 else 0)]) (by rw [show ((if (jw q11.1) = 0 then 1 else 0) : Int) = 0 from (if_neg q14)]) (K13 (jup (jlf (jla 0 [jR (some this)])) 1 (jI (v1 - v3))) )
theorem cd_6 {pc : Nat} {i : Instr × Nat} (h : mm_lk mm_c6 pc = some i) : mm_cd 6 pc = some i := h
theorem mt_6 : mm_MT 6 = (0, 1, none, 0, 0, []) := rfl
set_option maxRecDepth 100000 in
theorem jk_6_b16 {L : Nat} {xs : Nat → Int32} {this : Nat}  {h : jH} {o : jH} (e : jd_6_b16 this  h = some o) : ∀ lv : jL, lv 0 = some (jR (some this)) → ey (mm_xt L xs) 0 6 16 lv [] h (.inl (none, jaH o)) := by
  intro lv f0
  unfold jd_6_b16 at e
  refine ey_aload_n (cd_6 rfl) f0 ?_
  refine ey_iconst (cd_6 rfl) ?_
  obtain ⟨h8, e9, e⟩ := jbind e
  refine ey_putf_i (cd_6 rfl) mt_6 rfl rfl rfl e9 ?_
  cases e
  exact ey_retv (cd_6 rfl) mt_6 rfl
set_option maxRecDepth 100000 in
theorem ok_6 {L : Nat} {xs : Nat → Int32} {this : Nat}  {h : jH} {o : jH} (e : jd_6 this  h = some o) : mm_Runs (mm_xt L xs) 1 6 ([jR (some this)].map jcv) (jaH h) (.inl (none, jaH o)) := by
  refine ey_run0 _ mt_6 (jsl_s rfl) ?_
  unfold jd_6 at e
  refine ey_aload_n (cd_6 rfl) rfl ?_
  obtain ⟨r1, e2, e⟩ := jbind e
  refine ey_getf_r (cd_6 rfl) mt_6 rfl rfl rfl e2 ?_
  by_cases q3 : r1 = none
  · rw [if_pos q3] at e
    refine ey_rs (s0 := [jR r1]) (s1 := [jR none]) (by rw [q3]) ?_
    refine ey_ifnonnull_n (cd_6 rfl) rfl ?_
    refine ey_aload_n (cd_6 rfl) rfl ?_
    refine ey_sipush (cd_6 rfl) (by decide) ?_
    obtain ⟨n4, e5, e⟩ := jbind e
    refine ey_newarr (cd_6 rfl) (by decide) e5 ?_
    obtain ⟨h6, e7, e⟩ := jbind e
    refine ey_putf_r (cd_6 rfl) mt_6 rfl rfl rfl e7 ?_
    exact jk_6_b16 e (jlf (jla 0 [jR (some this)])) rfl
  · rw [if_neg q3] at e
    obtain ⟨w10, w10e⟩ := Option.ne_none_iff_exists'.mp q3
    refine ey_rs (s0 := [jR r1]) (s1 := [jR (some w10)]) (by rw [w10e]) ?_
    refine ey_ifnonnull_s (cd_6 rfl) rfl ?_
    exact jk_6_b16 e (jlf (jla 0 [jR (some this)])) rfl
theorem cd_7 {pc : Nat} {i : Instr × Nat} (h : mm_lk mm_c7 pc = some i) : mm_cd 7 pc = some i := h
theorem mt_7 : mm_MT 7 = (0, 1, none, 0, 0, []) := rfl
set_option maxRecDepth 100000 in
theorem ok_7 {L : Nat} {xs : Nat → Int32} {this : Nat}  {h : jH} {o : jH} (e : jd_7 this  h = some o) : mm_Runs (mm_xt L xs) 1 7 ([jR (some this)].map jcv) (jaH h) (.inl (none, jaH o)) := by
  refine ey_run0 _ mt_7 (jsl_s rfl) ?_
  unfold jd_7 at e
  refine ey_aload_n (cd_7 rfl) rfl ?_
  refine ey_null (cd_7 rfl) ?_
  obtain ⟨h1, e2, e⟩ := jbind e
  refine ey_putf_r (cd_7 rfl) mt_7 rfl rfl rfl e2 ?_
  refine ey_aload_n (cd_7 rfl) rfl ?_
  refine ey_iconst (cd_7 rfl) ?_
  obtain ⟨h3, e4, e⟩ := jbind e
  refine ey_putf_i (cd_7 rfl) mt_7 rfl rfl rfl e4 ?_
  cases e
  exact ey_retv (cd_7 rfl) mt_7 rfl
theorem cd_8 {pc : Nat} {i : Instr × Nat} (h : mm_lk mm_c8 pc = some i) : mm_cd 8 pc = some i := h
theorem mt_8 : mm_MT 8 = (0, 7, none, 2, 0, []) := rfl
set_option maxRecDepth 100000 in
theorem jk_8_b77 {L : Nat} {xs : Nat → Int32} {this : Nat} {x1 : Int} {x3 : Int} {x4 : Int} {x5 : Int} {y0 : Int} {h : jH} {o : ((Int × jH) ⊕ jH)} {r : mm_R} (e : jd_8_b77 this x1 x3 x4 x5 y0 h = some o) (K : jsm (fun s => (∀ lv : jL, lv 0 = some (jR (some this)) → lv 1 = some (jI x1) → lv 3 = some (jI s.1) → ey (mm_xt L xs) 0 8 22 lv [] s.2 r)) (fun x => (∀ lv : jL, ey (mm_xt L xs) 0 8 115 lv [] x r)) o) : ∀ lv : jL, lv 0 = some (jR (some this)) → lv 1 = some (jI x1) → lv 3 = some (jI x3) → lv 4 = some (jI x4) → lv 5 = some (jI x5) → ey (mm_xt L xs) 0 8 77 lv [jI y0] h r := by
  intro lv f0 f1 f3 f4 f5
  unfold jd_8_b77 at e
  refine ey_istore (cd_8 rfl) mt_8 rfl ?_
  refine ey_aload_n (cd_8 rfl) f0 ?_
  obtain ⟨r15, e16, e⟩ := jbind e
  refine ey_getf_r (cd_8 rfl) mt_8 rfl rfl rfl e16 ?_
  refine ey_aload_n (cd_8 rfl) f0 ?_
  obtain ⟨v17, e18, e⟩ := jbind e
  refine ey_getf_i (cd_8 rfl) mt_8 rfl rfl rfl e18 ?_
  refine ey_iconst (cd_8 rfl) ?_
  refine ey_ishr (cd_8 rfl) ?_
  refine ey_iload (cd_8 rfl) rfl ?_
  refine ey_iload (cd_8 rfl) f4 ?_
  refine ey_iload (cd_8 rfl) (jup_pi (lv := lv) (j := 5) (v := jI y0) (z := x5) f5) ?_
  refine ey_ishl (cd_8 rfl) ?_
  refine ey_ior (cd_8 rfl) ?_
  refine ey_i2b (cd_8 rfl) ?_
  obtain ⟨a19, e20, e⟩ := jbind e
  refine ey_rs (s0 := [jI (jwb (jor y0 (jshl x4 x5))), jI (jshr v17 3), jR r15]) (s1 := [jI (jwb (jor y0 (jshl x4 x5))), jI (jshr v17 3), jR (some a19)]) (by rw [e20]) ?_
  obtain ⟨h21, e22, e⟩ := jbind e
  refine ey_bast (cd_8 rfl) e22 ?_
  refine ey_aload_n (cd_8 rfl) f0 ?_
  refine ey_dup (cd_8 rfl) rfl ?_
  obtain ⟨v23, e24, e⟩ := jbind e
  refine ey_getf_i (cd_8 rfl) mt_8 rfl rfl rfl e24 ?_
  refine ey_iconst (cd_8 rfl) ?_
  refine ey_iadd (cd_8 rfl) ?_
  obtain ⟨h25, e26, e⟩ := jbind e
  refine ey_putf_i (cd_8 rfl) mt_8 rfl rfl rfl e26 ?_
  refine ey_iinc (cd_8 rfl) mt_8 rfl f3 ?_
  refine ey_goto (cd_8 rfl) rfl ?_
  cases e
  exact K (jup (jup lv 6 (jI y0)) 3 (jI (x3 + (-1)))) f0 f1 rfl
set_option maxRecDepth 100000 in
theorem jk_8_s22 {L : Nat} {xs : Nat → Int32} {this : Nat} {x1 : Int} {x3 : Int} {h : jH} {o : ((Int × jH) ⊕ jH)} {r : mm_R} (e : jd_8_s22 this x1 x3 h = some o) (K : jsm (fun s => (∀ lv : jL, lv 0 = some (jR (some this)) → lv 1 = some (jI x1) → lv 3 = some (jI s.1) → ey (mm_xt L xs) 0 8 22 lv [] s.2 r)) (fun x => (∀ lv : jL, ey (mm_xt L xs) 0 8 115 lv [] x r)) o) : ∀ lv : jL, lv 0 = some (jR (some this)) → lv 1 = some (jI x1) → lv 3 = some (jI x3) → ey (mm_xt L xs) 0 8 22 lv [] h r := by
  intro lv f0 f1 f3
  unfold jd_8_s22 at e
  refine ey_iload_n (cd_8 rfl) f3 ?_
  by_cases q8 : (jw x3) < 0
  · rw [if_pos q8] at e
    refine ey_zlt (cd_8 rfl) rfl rfl q8 ?_
    cases e
    exact K lv 
  · rw [if_neg q8] at e
    refine ey_ylt (cd_8 rfl) rfl rfl q8 ?_
    refine ey_aload_n (cd_8 rfl) f0 ?_
    obtain ⟨v9, e10, e⟩ := jbind e
    refine ey_getf_i (cd_8 rfl) mt_8 rfl rfl rfl e10 ?_
    refine ey_sipush (cd_8 rfl) (by decide) ?_
    by_cases q11 : 32000 ≤ (jw v9)
    · rw [if_pos q11] at e
      refine ey_cge (cd_8 rfl) rfl rfl (show jw 32000 = 32000 from by decide) q11 ?_
      cases e
      exact K lv 
    · rw [if_neg q11] at e
      refine ey_nge (cd_8 rfl) rfl rfl (show jw 32000 = 32000 from by decide) q11 ?_
      refine ey_iload_n (cd_8 rfl) f1 ?_
      refine ey_iload_n (cd_8 rfl) f3 ?_
      refine ey_ishr (cd_8 rfl) ?_
      refine ey_iconst (cd_8 rfl) ?_
      refine ey_iand (cd_8 rfl) ?_
      refine ey_istore (cd_8 rfl) mt_8 rfl ?_
      refine ey_bipush (cd_8 rfl) (by decide) ?_
      refine ey_aload_n (cd_8 rfl) f0 ?_
      obtain ⟨v12, e13, e⟩ := jbind e
      refine ey_getf_i (cd_8 rfl) mt_8 rfl rfl rfl e13 ?_
      refine ey_bipush (cd_8 rfl) (by decide) ?_
      refine ey_iand (cd_8 rfl) ?_
      refine ey_isub (cd_8 rfl) ?_
      refine ey_istore (cd_8 rfl) mt_8 rfl ?_
      refine ey_iload (cd_8 rfl) rfl ?_
      refine ey_bipush (cd_8 rfl) (by decide) ?_
      by_cases q14 : (jw (7 - (jand v12 7))) = 7
      · rw [if_pos q14] at e
        refine ey_nne (cd_8 rfl) rfl rfl (show jw 7 = 7 from by decide) (fun w => w q14) ?_
        refine ey_iconst (cd_8 rfl) ?_
        refine ey_goto (cd_8 rfl) rfl ?_
        exact jk_8_b77 e K (jup (jup lv 4 (jI (jand (jshr x1 x3) 1))) 5 (jI (7 - (jand v12 7)))) f0 f1 (jup_o rfl (jup_pi (lv := lv) (j := 3) (v := jI (jand (jshr x1 x3) 1)) (z := x3) f3)) (jup_pi (lv := (jup lv 4 (jI (jand (jshr x1 x3) 1)))) (j := 4) (v := jI (7 - (jand v12 7))) (z := (jand (jshr x1 x3) 1)) rfl) rfl
      · rw [if_neg q14] at e
        refine ey_cne (cd_8 rfl) rfl rfl (show jw 7 = 7 from by decide) q14 ?_
        refine ey_aload_n (cd_8 rfl) f0 ?_
        obtain ⟨r27, e28, e⟩ := jbind e
        refine ey_getf_r (cd_8 rfl) mt_8 rfl rfl rfl e28 ?_
        refine ey_aload_n (cd_8 rfl) f0 ?_
        obtain ⟨v29, e30, e⟩ := jbind e
        refine ey_getf_i (cd_8 rfl) mt_8 rfl rfl rfl e30 ?_
        refine ey_iconst (cd_8 rfl) ?_
        refine ey_ishr (cd_8 rfl) ?_
        obtain ⟨a31, e32, e⟩ := jbind e
        refine ey_rs (s0 := [jI (jshr v29 3), jR r27]) (s1 := [jI (jshr v29 3), jR (some a31)]) (by rw [e32]) ?_
        obtain ⟨v33, e34, e⟩ := jbind e
        refine ey_bald (cd_8 rfl) e34 ?_
        exact jk_8_b77 e K (jup (jup lv 4 (jI (jand (jshr x1 x3) 1))) 5 (jI (7 - (jand v12 7)))) f0 f1 (jup_o rfl (jup_pi (lv := lv) (j := 3) (v := jI (jand (jshr x1 x3) 1)) (z := x3) f3)) (jup_pi (lv := (jup lv 4 (jI (jand (jshr x1 x3) 1)))) (j := 4) (v := jI (7 - (jand v12 7))) (z := (jand (jshr x1 x3) 1)) rfl) rfl
theorem jk_8_l22 {L : Nat} {xs : Nat → Int32} {this : Nat} {x1 : Int} {x3 : Int} {h : jH} {x : jH} {r : mm_R} (e : jd_8_l22 this x1 x3 h = some x) (K : (∀ lv : jL, ey (mm_xt L xs) 0 8 115 lv [] x r)) : ∀ lv : jL, lv 0 = some (jR (some this)) → lv 1 = some (jI x1) → lv 3 = some (jI x3) → ey (mm_xt L xs) 0 8 22 lv [] h r := by
  unfold jd_8_l22 at e
  exact jlp_ok2 (P := fun s => ∀ lv : jL, lv 0 = some (jR (some this)) → lv 1 = some (jI x1) → lv 3 = some (jI s.1) → ey (mm_xt L xs) 0 8 22 lv [] s.2 r) (Q := fun x => (∀ lv : jL, ey (mm_xt L xs) 0 8 115 lv [] x r)) (fun s q hq hk => jk_8_s22 hq hk) jfu _ x e K
set_option maxRecDepth 100000 in
theorem ok_8 {L : Nat} {xs : Nat → Int32} {this : Nat} {p0 : Int} {p1 : Int} {h : jH} {o : jH} (e : jd_8 this p0 p1 h = some o) : mm_Runs (mm_xt L xs) 1 8 ([jR (some this), jI p0, jI p1].map jcv) (jaH h) (.inl (none, jaH o)) := by
  refine ey_run0 _ mt_8 (jsl_s rfl) ?_
  unfold jd_8 at e
  refine ey_aload_n (cd_8 rfl) rfl ?_
  obtain ⟨r1, e2, e⟩ := jbind e
  refine ey_getf_r (cd_8 rfl) mt_8 rfl rfl rfl e2 ?_
  by_cases q3 : r1 = none
  · rw [if_pos q3] at e
    refine ey_rs (s0 := [jR r1]) (s1 := [jR none]) (by rw [q3]) ?_
    refine ey_ifnonnull_n (cd_8 rfl) rfl ?_
    refine ey_aload_n (cd_8 rfl) rfl ?_
    refine ey_dup (cd_8 rfl) rfl ?_
    obtain ⟨v4, e5, e⟩ := jbind e
    refine ey_getf_i (cd_8 rfl) mt_8 rfl rfl rfl e5 ?_
    refine ey_iload_n (cd_8 rfl) rfl ?_
    refine ey_iadd (cd_8 rfl) ?_
    obtain ⟨h6, e7, e⟩ := jbind e
    refine ey_putf_i (cd_8 rfl) mt_8 rfl rfl rfl e7 ?_
    cases e
    exact ey_retv (cd_8 rfl) mt_8 rfl
  · rw [if_neg q3] at e
    obtain ⟨w37, w37e⟩ := Option.ne_none_iff_exists'.mp q3
    refine ey_rs (s0 := [jR r1]) (s1 := [jR (some w37)]) (by rw [w37e]) ?_
    refine ey_ifnonnull_s (cd_8 rfl) rfl ?_
    refine ey_iload_n (cd_8 rfl) rfl ?_
    refine ey_iconst (cd_8 rfl) ?_
    refine ey_isub (cd_8 rfl) ?_
    refine ey_istore_n (cd_8 rfl) mt_8 rfl ?_
    obtain ⟨x35, e36, e⟩ := jbind e
    refine jk_8_l22 e36 ?_ (jup (jlf (jla 0 [jR (some this), jI p0, jI p1])) 3 (jI (p1 - 1))) rfl rfl rfl
    intro lv 
    cases e
    exact ey_retv (cd_8 rfl) mt_8 rfl
theorem cd_11 {pc : Nat} {i : Instr × Nat} (h : mm_lk mm_c11 pc = some i) : mm_cd 11 pc = some i := h
theorem mt_11 : mm_MT 11 = (0, 2, some .int, 1, 1, []) := rfl
set_option maxRecDepth 100000 in
theorem jk_11_s2 {L : Nat} {xs : Nat → Int32} {x0 : Int} {x1 : Int} {h : jH} {o : (Int ⊕ Int)} {r : mm_R} (e : jd_11_s2 x0 x1  = some o) (K : jsm (fun s => (∀ lv : jL, lv 0 = some (jI x0) → lv 1 = some (jI s) → ey (mm_xt L xs) 0 11 2 lv [] h r)) (fun x => (∀ lv : jL, lv 1 = some (jI x) → ey (mm_xt L xs) 0 11 22 lv [] h r)) o) : ∀ lv : jL, lv 0 = some (jI x0) → lv 1 = some (jI x1) → ey (mm_xt L xs) 0 11 2 lv [] h r := by
  intro lv f0 f1
  unfold jd_11_s2 at e
  refine ey_iload_n (cd_11 rfl) f1 ?_
  refine ey_bipush (cd_11 rfl) (by decide) ?_
  by_cases q1 : 30 ≤ (jw x1)
  · rw [if_pos q1] at e
    refine ey_cge (cd_11 rfl) rfl rfl (show jw 30 = 30 from by decide) q1 ?_
    cases e
    exact K lv f1
  · rw [if_neg q1] at e
    refine ey_nge (cd_11 rfl) rfl rfl (show jw 30 = 30 from by decide) q1 ?_
    refine ey_iload_n (cd_11 rfl) f0 ?_
    refine ey_iconst (cd_11 rfl) ?_
    refine ey_iadd (cd_11 rfl) ?_
    refine ey_iload_n (cd_11 rfl) f1 ?_
    refine ey_ishr (cd_11 rfl) ?_
    by_cases q2 : (jw (jshr (x0 + 1) x1)) ≤ 0
    · rw [if_pos q2] at e
      refine ey_zle (cd_11 rfl) rfl rfl q2 ?_
      cases e
      exact K lv f1
    · rw [if_neg q2] at e
      refine ey_yle (cd_11 rfl) rfl rfl q2 ?_
      refine ey_iinc (cd_11 rfl) mt_11 rfl f1 ?_
      refine ey_goto (cd_11 rfl) rfl ?_
      cases e
      exact K (jup lv 1 (jI (x1 + 1))) (jup_pi (lv := lv) (j := 0) (v := jI (x1 + 1)) (z := x0) f0) rfl
theorem jk_11_l2 {L : Nat} {xs : Nat → Int32} {x0 : Int} {x1 : Int} {h : jH} {x : Int} {r : mm_R} (e : jd_11_l2 x0 x1  = some x) (K : (∀ lv : jL, lv 1 = some (jI x) → ey (mm_xt L xs) 0 11 22 lv [] h r)) : ∀ lv : jL, lv 0 = some (jI x0) → lv 1 = some (jI x1) → ey (mm_xt L xs) 0 11 2 lv [] h r := by
  unfold jd_11_l2 at e
  exact jlp_ok2 (P := fun s => ∀ lv : jL, lv 0 = some (jI x0) → lv 1 = some (jI s) → ey (mm_xt L xs) 0 11 2 lv [] h r) (Q := fun x => (∀ lv : jL, lv 1 = some (jI x) → ey (mm_xt L xs) 0 11 22 lv [] h r)) (fun s q hq hk => jk_11_s2 hq hk) jfu _ x e K
set_option maxRecDepth 100000 in
theorem ok_11 {L : Nat} {xs : Nat → Int32} {p0 : Int} {h : jH} {o : Int} (e : jd_11 p0  = some o) : mm_Runs (mm_xt L xs) 1 11 ([jI p0].map jcv) (jaH h) (.inl (some (jcv (jI o)), jaH h)) := by
  refine ey_run0 _ mt_11 (jsl_s rfl) ?_
  unfold jd_11 at e
  refine ey_iconst (cd_11 rfl) ?_
  refine ey_istore_n (cd_11 rfl) mt_11 rfl ?_
  obtain ⟨x3, e4, e⟩ := jbind e
  refine jk_11_l2 e4 ?_ (jup (jlf (jla 0 [jI p0])) 1 (jI 1)) (jup_pi (lv := (jlf (jla 0 [jI p0]))) (j := 0) (v := jI 1) (z := p0) rfl) rfl
  intro lv g1
  refine ey_iconst (cd_11 rfl) ?_
  refine ey_iload_n (cd_11 rfl) g1 ?_
  refine ey_imul (cd_11 rfl) ?_
  refine ey_iconst (cd_11 rfl) ?_
  refine ey_isub (cd_11 rfl) ?_
  cases e
  exact ey_reti (cd_11 rfl) mt_11 rfl
theorem cd_9 {pc : Nat} {i : Instr × Nat} (h : mm_lk mm_c9 pc = some i) : mm_cd 9 pc = some i := h
theorem mt_9 : mm_MT 9 = (0, 2, none, 1, 0, []) := rfl
set_option maxRecDepth 100000 in
theorem ok_9 {L : Nat} {xs : Nat → Int32} {this : Nat} {p0 : Int} {h : jH} {o : jH} (e : jd_9 this p0 h = some o) : mm_Runs (mm_xt L xs) 2 9 ([jR (some this), jI p0].map jcv) (jaH h) (.inl (none, jaH o)) := by
  refine ey_run0 _ mt_9 (jsl_s rfl) ?_
  unfold jd_9 at e
  refine ey_aload_n (cd_9 rfl) rfl ?_
  refine ey_iload_n (cd_9 rfl) rfl ?_
  refine ey_iconst (cd_9 rfl) ?_
  refine ey_iadd (cd_9 rfl) ?_
  refine ey_iload_n (cd_9 rfl) rfl ?_
  obtain ⟨v1, e2, e⟩ := jbind e
  refine ey_cs (s0 := [jI p0, jI (p0 + 1), jR (some this)]) (s1 := [jI (p0 + 1), jR (some this)]) (st' := [jI v1, jI (p0 + 1), jR (some this)]) (cd_9 rfl) mt_9 mt_11 rfl (by decide) rfl rfl (jsml_s rfl) rfl (ok_11 e2) ?_
  obtain ⟨u3, e4, e⟩ := jbind e
  obtain ⟨h5, e6, e⟩ := jbind e
  refine ey_cv (s0 := [jI v1, jI (p0 + 1), jR (some this)]) (s1 := []) (st' := []) (cd_9 rfl) mt_9 mt_8 rfl rfl rfl (jck_s e4) rfl (jsml_s rfl) rfl (ok_8 e6) ?_
  cases e
  exact ey_retv (cd_9 rfl) mt_9 rfl
theorem cd_10 {pc : Nat} {i : Instr × Nat} (h : mm_lk mm_c10 pc = some i) : mm_cd 10 pc = some i := h
theorem mt_10 : mm_MT 10 = (0, 1, some .int, 0, 0, []) := rfl
set_option maxRecDepth 100000 in
theorem ok_10 {L : Nat} {xs : Nat → Int32} {this : Nat}  {h : jH} {o : Int} (e : jd_10 this  h = some o) : mm_Runs (mm_xt L xs) 1 10 ([jR (some this)].map jcv) (jaH h) (.inl (some (jcv (jI o)), jaH h)) := by
  refine ey_run0 _ mt_10 (jsl_s rfl) ?_
  unfold jd_10 at e
  refine ey_aload_n (cd_10 rfl) rfl ?_
  obtain ⟨v1, e2, e⟩ := jbind e
  refine ey_getf_i (cd_10 rfl) mt_10 rfl rfl rfl e2 ?_
  refine ey_bipush (cd_10 rfl) (by decide) ?_
  refine ey_iadd (cd_10 rfl) ?_
  refine ey_bipush (cd_10 rfl) (by decide) ?_
  refine ey_idiv (cd_10 rfl) (by decide) ?_
  cases e
  exact ey_reti (cd_10 rfl) mt_10 rfl
theorem cd_12 {pc : Nat} {i : Instr × Nat} (h : mm_lk mm_c12 pc = some i) : mm_cd 12 pc = some i := h
theorem mt_12 : mm_MT 12 = (0, 1, some .int, 1, 1, []) := rfl
set_option maxRecDepth 100000 in
theorem ok_12 {L : Nat} {xs : Nat → Int32} {p0 : Int} {h : jH} : mm_Runs (mm_xt L xs) 1 12 ([jI p0].map jcv) (jaH h) (.inl (some (jcv (jI (jd_12 p0))), jaH h)) := by
  refine ey_run0 _ mt_12 (jsl_s rfl) ?_
  refine ey_iload_n (cd_12 rfl) rfl ?_
  by_cases q1 : (jw p0) ≤ 0
  · refine ey_zle (cd_12 rfl) rfl rfl q1 ?_
    refine ey_bipush (cd_12 rfl) (by decide) ?_
    refine ey_iload_n (cd_12 rfl) rfl ?_
    refine ey_imul (cd_12 rfl) ?_
    rw [show (jd_12 p0) = ((-2) * p0) from by unfold jd_12; exact (if_pos q1)]
    exact ey_reti (cd_12 rfl) mt_12 rfl
  · refine ey_yle (cd_12 rfl) rfl rfl q1 ?_
    refine ey_iconst (cd_12 rfl) ?_
    refine ey_iload_n (cd_12 rfl) rfl ?_
    refine ey_imul (cd_12 rfl) ?_
    refine ey_iconst (cd_12 rfl) ?_
    refine ey_isub (cd_12 rfl) ?_
    refine ey_goto (cd_12 rfl) rfl ?_
    rw [show (jd_12 p0) = ((2 * p0) - 1) from by unfold jd_12; exact (if_neg q1)]
    exact ey_reti (cd_12 rfl) mt_12 rfl
theorem cd_13 {pc : Nat} {i : Instr × Nat} (h : mm_lk mm_c13 pc = some i) : mm_cd 13 pc = some i := h
theorem mt_13 : mm_MT 13 = (0, 1, some .int, 1, 1, []) := rfl
set_option maxRecDepth 100000 in
theorem ok_13 {L : Nat} {xs : Nat → Int32} {p0 : Int} {h : jH} {o : Int} (e : jd_13 p0  = some o) : mm_Runs (mm_xt L xs) 2 13 ([jI p0].map jcv) (jaH h) (.inl (some (jcv (jI o)), jaH h)) := by
  refine ey_run0 _ mt_13 (jsl_s rfl) ?_
  unfold jd_13 at e
  refine ey_iload_n (cd_13 rfl) rfl ?_
  refine ey_cs (s0 := [jI p0]) (s1 := []) (st' := [jI (jd_12 p0)]) (cd_13 rfl) mt_13 mt_12 rfl (by decide) rfl rfl (jsml_s rfl) rfl (ok_12 ) ?_
  obtain ⟨v1, e2, e⟩ := jbind e
  refine ey_cs (s0 := [jI (jd_12 p0)]) (s1 := []) (st' := [jI v1]) (cd_13 rfl) mt_13 mt_11 rfl (by decide) rfl rfl (jsml_s rfl) rfl (ok_11 e2) ?_
  cases e
  exact ey_reti (cd_13 rfl) mt_13 rfl
theorem cd_14 {pc : Nat} {i : Instr × Nat} (h : mm_lk mm_c14 pc = some i) : mm_cd 14 pc = some i := h
theorem mt_14 : mm_MT 14 = (0, 1, some .int, 1, 1, []) := rfl
set_option maxRecDepth 100000 in
theorem ok_14 {L : Nat} {xs : Nat → Int32} {p0 : Int} {h : jH} : mm_Runs (mm_xt L xs) 1 14 ([jI p0].map jcv) (jaH h) (.inl (some (jcv (jI (jd_14 p0))), jaH h)) := by
  refine ey_run0 _ mt_14 (jsl_s rfl) ?_
  refine ey_iload_n (cd_14 rfl) rfl ?_
  refine ey_iconst (cd_14 rfl) ?_
  refine ey_iand (cd_14 rfl) ?_
  refine ey_iconst (cd_14 rfl) ?_
  by_cases q1 : (jw (jand p0 1)) = 1
  · refine ey_nne (cd_14 rfl) rfl rfl (show jw 1 = 1 from by decide) (fun w => w q1) ?_
    refine ey_iload_n (cd_14 rfl) rfl ?_
    refine ey_iconst (cd_14 rfl) ?_
    refine ey_iadd (cd_14 rfl) ?_
    refine ey_iconst (cd_14 rfl) ?_
    refine ey_idiv (cd_14 rfl) (by decide) ?_
    refine ey_goto (cd_14 rfl) rfl ?_
    rw [show (jd_14 p0) = (jdiv (p0 + 1) 2) from by unfold jd_14; exact (if_pos q1)]
    exact ey_reti (cd_14 rfl) mt_14 rfl
  · refine ey_cne (cd_14 rfl) rfl rfl (show jw 1 = 1 from by decide) q1 ?_
    refine ey_iload_n (cd_14 rfl) rfl ?_
    refine ey_iconst (cd_14 rfl) ?_
    refine ey_idiv (cd_14 rfl) (by decide) ?_
    refine ey_ineg (cd_14 rfl) ?_
    rw [show (jd_14 p0) = (-(jdiv p0 2)) from by unfold jd_14; exact (if_neg q1)]
    exact ey_reti (cd_14 rfl) mt_14 rfl
theorem cd_72 {pc : Nat} {i : Instr × Nat} (h : mm_lk mm_c72 pc = some i) : mm_cd 72 pc = some i := h
theorem mt_72 : mm_MT 72 = (5, 1, none, 0, 2, []) := rfl
set_option maxRecDepth 100000 in
theorem ok_72 {L : Nat} {xs : Nat → Int32} {this : Nat}  {h : jH} {o : jH} (e : jd_72 this  h = some o) : mm_Runs (mm_xt L xs) 1 72 ([jR (some this)].map jcv) (jaH h) (.inl (none, jaH o)) := by
  refine ey_run0 _ mt_72 (jsl_s rfl) ?_
  unfold jd_72 at e
  refine ey_aload_n (cd_72 rfl) rfl ?_
  refine ey_oini (cd_72 rfl) mt_72 rfl (jsml_s rfl) ?_
  refine ey_aload_n (cd_72 rfl) rfl ?_
  refine ey_iconst (cd_72 rfl) ?_
  obtain ⟨h1, e2, e⟩ := jbind e
  refine ey_putf_i (cd_72 rfl) mt_72 rfl rfl rfl e2 ?_
  refine ey_aload_n (cd_72 rfl) rfl ?_
  refine ey_iconst (cd_72 rfl) ?_
  obtain ⟨h3, e4, e⟩ := jbind e
  refine ey_putf_i (cd_72 rfl) mt_72 rfl rfl rfl e4 ?_
  refine ey_aload_n (cd_72 rfl) rfl ?_
  refine ey_null (cd_72 rfl) ?_
  obtain ⟨h5, e6, e⟩ := jbind e
  refine ey_putf_r (cd_72 rfl) mt_72 rfl rfl rfl e6 ?_
  refine ey_aload_n (cd_72 rfl) rfl ?_
  refine ey_null (cd_72 rfl) ?_
  obtain ⟨h7, e8, e⟩ := jbind e
  refine ey_putf_r (cd_72 rfl) mt_72 rfl rfl rfl e8 ?_
  refine ey_aload_n (cd_72 rfl) rfl ?_
  refine ey_null (cd_72 rfl) ?_
  obtain ⟨h9, e10, e⟩ := jbind e
  refine ey_putf_r (cd_72 rfl) mt_72 rfl rfl rfl e10 ?_
  refine ey_aload_n (cd_72 rfl) rfl ?_
  refine ey_iconst (cd_72 rfl) ?_
  obtain ⟨h11, e12, e⟩ := jbind e
  refine ey_putf_i (cd_72 rfl) mt_72 rfl rfl rfl e12 ?_
  refine ey_aload_n (cd_72 rfl) rfl ?_
  refine ey_iconst (cd_72 rfl) ?_
  obtain ⟨h13, e14, e⟩ := jbind e
  refine ey_putf_i (cd_72 rfl) mt_72 rfl rfl rfl e14 ?_
  refine ey_aload_n (cd_72 rfl) rfl ?_
  refine ey_bipush (cd_72 rfl) (by decide) ?_
  obtain ⟨n15, e16, e⟩ := jbind e
  refine ey_newarr (cd_72 rfl) (by decide) e16 ?_
  obtain ⟨h17, e18, e⟩ := jbind e
  refine ey_putf_r (cd_72 rfl) mt_72 rfl rfl rfl e18 ?_
  refine ey_aload_n (cd_72 rfl) rfl ?_
  refine ey_bipush (cd_72 rfl) (by decide) ?_
  obtain ⟨n19, e20, e⟩ := jbind e
  refine ey_newarr (cd_72 rfl) (by decide) e20 ?_
  obtain ⟨h21, e22, e⟩ := jbind e
  refine ey_putf_r (cd_72 rfl) mt_72 rfl rfl rfl e22 ?_
  refine ey_aload_n (cd_72 rfl) rfl ?_
  refine ey_bipush (cd_72 rfl) (by decide) ?_
  obtain ⟨n23, e24, e⟩ := jbind e
  refine ey_newarr (cd_72 rfl) (by decide) e24 ?_
  obtain ⟨h25, e26, e⟩ := jbind e
  refine ey_putf_r (cd_72 rfl) mt_72 rfl rfl rfl e26 ?_
  refine ey_aload_n (cd_72 rfl) rfl ?_
  refine ey_bipush (cd_72 rfl) (by decide) ?_
  obtain ⟨n27, e28, e⟩ := jbind e
  refine ey_newarr (cd_72 rfl) (by decide) e28 ?_
  obtain ⟨h29, e30, e⟩ := jbind e
  refine ey_putf_r (cd_72 rfl) mt_72 rfl rfl rfl e30 ?_
  refine ey_aload_n (cd_72 rfl) rfl ?_
  refine ey_iconst (cd_72 rfl) ?_
  obtain ⟨n31, e32, e⟩ := jbind e
  refine ey_newarr (cd_72 rfl) (by decide) e32 ?_
  obtain ⟨h33, e34, e⟩ := jbind e
  refine ey_putf_r (cd_72 rfl) mt_72 rfl rfl rfl e34 ?_
  refine ey_aload_n (cd_72 rfl) rfl ?_
  refine ey_iconst (cd_72 rfl) ?_
  obtain ⟨n35, e36, e⟩ := jbind e
  refine ey_newarr (cd_72 rfl) (by decide) e36 ?_
  obtain ⟨h37, e38, e⟩ := jbind e
  refine ey_putf_r (cd_72 rfl) mt_72 rfl rfl rfl e38 ?_
  refine ey_aload_n (cd_72 rfl) rfl ?_
  refine ey_bipush (cd_72 rfl) (by decide) ?_
  obtain ⟨n39, e40, e⟩ := jbind e
  refine ey_newarr (cd_72 rfl) (by decide) e40 ?_
  obtain ⟨h41, e42, e⟩ := jbind e
  refine ey_putf_r (cd_72 rfl) mt_72 rfl rfl rfl e42 ?_
  refine ey_aload_n (cd_72 rfl) rfl ?_
  refine ey_bipush (cd_72 rfl) (by decide) ?_
  obtain ⟨n43, e44, e⟩ := jbind e
  refine ey_newarr (cd_72 rfl) (by decide) e44 ?_
  obtain ⟨h45, e46, e⟩ := jbind e
  refine ey_putf_r (cd_72 rfl) mt_72 rfl rfl rfl e46 ?_
  refine ey_aload_n (cd_72 rfl) rfl ?_
  refine ey_bipush (cd_72 rfl) (by decide) ?_
  obtain ⟨n47, e48, e⟩ := jbind e
  refine ey_newarr (cd_72 rfl) (by decide) e48 ?_
  obtain ⟨h49, e50, e⟩ := jbind e
  refine ey_putf_r (cd_72 rfl) mt_72 rfl rfl rfl e50 ?_
  cases e
  exact ey_retv (cd_72 rfl) mt_72 rfl
theorem cd_15 {pc : Nat} {i : Instr × Nat} (h : mm_lk mm_c15 pc = some i) : mm_cd 15 pc = some i := h
theorem mt_15 : mm_MT 15 = (1, 1, none, 0, 2, []) := rfl
set_option maxRecDepth 100000 in
theorem ok_15 {L : Nat} {xs : Nat → Int32} {this : Nat}  {h : jH} {o : jH} (e : jd_15 this  h = some o) : mm_Runs (mm_xt L xs) 2 15 ([jR (some this)].map jcv) (jaH h) (.inl (none, jaH o)) := by
  refine ey_run0 _ mt_15 (jsl_s rfl) ?_
  unfold jd_15 at e
  refine ey_aload_n (cd_15 rfl) rfl ?_
  refine ey_oini (cd_15 rfl) mt_15 rfl (jsml_s rfl) ?_
  refine ey_aload_n (cd_15 rfl) rfl ?_
  obtain ⟨n1, e2, e⟩ := jbind e
  refine ey_new (cd_15 rfl) mt_15 rfl rfl jdf_5 e2 ?_
  refine ey_dup (cd_15 rfl) rfl ?_
  obtain ⟨h3, e4, e⟩ := jbind e
  refine ey_ci (s0 := [jR (some n1.1), jR (some n1.1), jR (some this)]) (s1 := [jR (some n1.1), jR (some this)]) (st' := [jR (some n1.1), jR (some this)]) (cd_15 rfl) mt_15 mt_72 rfl (by decide) rfl rfl (jsml_s rfl) rfl (ok_72 e4) ?_
  obtain ⟨h5, e6, e⟩ := jbind e
  refine ey_putf_r (cd_15 rfl) mt_15 rfl rfl rfl e6 ?_
  refine ey_aload_n (cd_15 rfl) rfl ?_
  obtain ⟨n7, e8, e⟩ := jbind e
  refine ey_new (cd_15 rfl) mt_15 rfl rfl jdf_0 e8 ?_
  refine ey_dup (cd_15 rfl) rfl ?_
  obtain ⟨h9, e10, e⟩ := jbind e
  refine ey_ci (s0 := [jR (some n7.1), jR (some n7.1), jR (some this)]) (s1 := [jR (some n7.1), jR (some this)]) (st' := [jR (some n7.1), jR (some this)]) (cd_15 rfl) mt_15 mt_0 rfl (by decide) rfl rfl (jsml_s rfl) rfl (ok_0 e10) ?_
  obtain ⟨h11, e12, e⟩ := jbind e
  refine ey_putf_r (cd_15 rfl) mt_15 rfl rfl rfl e12 ?_
  refine ey_aload_n (cd_15 rfl) rfl ?_
  refine ey_bipush (cd_15 rfl) (by decide) ?_
  obtain ⟨n13, e14, e⟩ := jbind e
  refine ey_newarr (cd_15 rfl) (by decide) e14 ?_
  obtain ⟨h15, e16, e⟩ := jbind e
  refine ey_putf_r (cd_15 rfl) mt_15 rfl rfl rfl e16 ?_
  refine ey_aload_n (cd_15 rfl) rfl ?_
  refine ey_bipush (cd_15 rfl) (by decide) ?_
  obtain ⟨n17, e18, e⟩ := jbind e
  refine ey_newarr (cd_15 rfl) (by decide) e18 ?_
  obtain ⟨h19, e20, e⟩ := jbind e
  refine ey_putf_r (cd_15 rfl) mt_15 rfl rfl rfl e20 ?_
  refine ey_aload_n (cd_15 rfl) rfl ?_
  refine ey_bipush (cd_15 rfl) (by decide) ?_
  obtain ⟨n21, e22, e⟩ := jbind e
  refine ey_newarr (cd_15 rfl) (by decide) e22 ?_
  obtain ⟨h23, e24, e⟩ := jbind e
  refine ey_putf_r (cd_15 rfl) mt_15 rfl rfl rfl e24 ?_
  refine ey_aload_n (cd_15 rfl) rfl ?_
  refine ey_iconst (cd_15 rfl) ?_
  obtain ⟨n25, e26, e⟩ := jbind e
  refine ey_newarr (cd_15 rfl) (by decide) e26 ?_
  obtain ⟨h27, e28, e⟩ := jbind e
  refine ey_putf_r (cd_15 rfl) mt_15 rfl rfl rfl e28 ?_
  refine ey_aload_n (cd_15 rfl) rfl ?_
  refine ey_iconst (cd_15 rfl) ?_
  obtain ⟨n29, e30, e⟩ := jbind e
  refine ey_newarr (cd_15 rfl) (by decide) e30 ?_
  obtain ⟨h31, e32, e⟩ := jbind e
  refine ey_putf_r (cd_15 rfl) mt_15 rfl rfl rfl e32 ?_
  refine ey_aload_n (cd_15 rfl) rfl ?_
  refine ey_iconst (cd_15 rfl) ?_
  obtain ⟨h33, e34, e⟩ := jbind e
  refine ey_putf_i (cd_15 rfl) mt_15 rfl rfl rfl e34 ?_
  refine ey_aload_n (cd_15 rfl) rfl ?_
  refine ey_iconst (cd_15 rfl) ?_
  obtain ⟨h35, e36, e⟩ := jbind e
  refine ey_putf_i (cd_15 rfl) mt_15 rfl rfl rfl e36 ?_
  cases e
  exact ey_retv (cd_15 rfl) mt_15 rfl
theorem cd_84 {pc : Nat} {i : Instr × Nat} (h : mm_lk mm_c84 pc = some i) : mm_cd 84 pc = some i := h
theorem mt_84 : mm_MT 84 = (5, 11, none, 7, 1, []) := rfl
set_option maxRecDepth 100000 in
theorem jk_84_b101 {L : Nat} {xs : Nat → Int32} {x0 : Option Nat} {x2 : Int} {x3 : Int} {x4 : Int} {x5 : Int} {x6 : Int} {x7 : Int} {x8 : Int} {y0 : Int} {y1 : Int} {y2 : Int} {y3 : Int} {y4 : Option Nat} {h : jH} {o : ((Int × jH) ⊕ jH)} {r : mm_R} (e : jd_84_b101 x0 x2 x3 x4 x5 x6 x7 x8 y0 y1 y2 y3 y4 h = some o) (K : jsm (fun s => (∀ lv : jL, lv 0 = some (jR x0) → lv 2 = some (jI x2) → lv 3 = some (jI x3) → lv 4 = some (jI x4) → lv 5 = some (jI x5) → lv 6 = some (jI x6) → lv 7 = some (jI x7) → lv 8 = some (jI s.1) → ey (mm_xt L xs) 0 84 10 lv [] s.2 r)) (fun x => (∀ lv : jL, ey (mm_xt L xs) 0 84 110 lv [] x r)) o) : ∀ lv : jL, lv 0 = some (jR x0) → lv 2 = some (jI x2) → lv 3 = some (jI x3) → lv 4 = some (jI x4) → lv 5 = some (jI x5) → lv 6 = some (jI x6) → lv 7 = some (jI x7) → lv 8 = some (jI x8) → ey (mm_xt L xs) 0 84 101 lv [jI y0, jI y1, jI y2, jI y3, jR y4] h r := by
  intro lv f0 f2 f3 f4 f5 f6 f7 f8
  unfold jd_84_b101 at e
  refine ey_imul (cd_84 rfl) ?_
  refine ey_iadd (cd_84 rfl) ?_
  obtain ⟨a6, e7, e⟩ := jbind e
  refine ey_rs (s0 := [jI (y2 + (y1 * y0)), jI y3, jR y4]) (s1 := [jI (y2 + (y1 * y0)), jI y3, jR (some a6)]) (by rw [e7]) ?_
  obtain ⟨h8, e9, e⟩ := jbind e
  refine ey_iast (cd_84 rfl) e9 ?_
  refine ey_iinc (cd_84 rfl) mt_84 rfl f8 ?_
  refine ey_goto (cd_84 rfl) rfl ?_
  cases e
  exact K (jup lv 8 (jI (x8 + 1))) f0 f2 f3 f4 f5 f6 (jup_pi (lv := lv) (j := 7) (v := jI (x8 + 1)) (z := x7) f7) rfl
set_option maxRecDepth 100000 in
theorem jk_84_b63 {L : Nat} {xs : Nat → Int32} {x0 : Option Nat} {x2 : Int} {x3 : Int} {x4 : Int} {x5 : Int} {x6 : Int} {x7 : Int} {x8 : Int} {x10 : Int} {y0 : Int} {y1 : Int} {y2 : Int} {y3 : Int} {y4 : Option Nat} {h : jH} {o : ((Int × jH) ⊕ jH)} {r : mm_R} (e : jd_84_b63 x0 x2 x3 x4 x5 x6 x7 x8 x10 y0 y1 y2 y3 y4 h = some o) (K : jsm (fun s => (∀ lv : jL, lv 0 = some (jR x0) → lv 2 = some (jI x2) → lv 3 = some (jI x3) → lv 4 = some (jI x4) → lv 5 = some (jI x5) → lv 6 = some (jI x6) → lv 7 = some (jI x7) → lv 8 = some (jI s.1) → ey (mm_xt L xs) 0 84 10 lv [] s.2 r)) (fun x => (∀ lv : jL, ey (mm_xt L xs) 0 84 110 lv [] x r)) o) : ∀ lv : jL, lv 0 = some (jR x0) → lv 2 = some (jI x2) → lv 3 = some (jI x3) → lv 4 = some (jI x4) → lv 5 = some (jI x5) → lv 6 = some (jI x6) → lv 7 = some (jI x7) → lv 8 = some (jI x8) → lv 10 = some (jI x10) → ey (mm_xt L xs) 0 84 63 lv [jI y0, jI y1, jI y2, jI y3, jR y4] h r := by
  intro lv f0 f2 f3 f4 f5 f6 f7 f8 f10
  unfold jd_84_b63 at e
  refine ey_imul (cd_84 rfl) ?_
  refine ey_iadd (cd_84 rfl) ?_
  obtain ⟨a2, e3, e⟩ := jbind e
  refine ey_rs (s0 := [jI (y2 + (y1 * y0)), jI y3, jR y4]) (s1 := [jI (y2 + (y1 * y0)), jI y3, jR (some a2)]) (by rw [e3]) ?_
  obtain ⟨h4, e5, e⟩ := jbind e
  refine ey_iast (cd_84 rfl) e5 ?_
  refine ey_aload_n (cd_84 rfl) f0 ?_
  refine ey_bipush (cd_84 rfl) (by decide) ?_
  refine ey_iload (cd_84 rfl) f8 ?_
  refine ey_iadd (cd_84 rfl) ?_
  refine ey_iload (cd_84 rfl) f6 ?_
  refine ey_iload (cd_84 rfl) f5 ?_
  refine ey_iload (cd_84 rfl) f10 ?_
  have K10 : ∀ lv : jL, lv 0 = some (jR x0) → lv 2 = some (jI x2) → lv 3 = some (jI x3) → lv 4 = some (jI x4) → lv 5 = some (jI x5) → lv 6 = some (jI x6) → lv 7 = some (jI x7) → lv 8 = some (jI x8) → ey (mm_xt L xs) 0 84 101 lv [jI (if 0 ≤ (jw x10) then (if (jw x10) < (jw x4) then x10 else (x4 - 1)) else 0), jI x5, jI x6, jI (8 + x8), jR x0] h4 r := by
    intro lv g0 g2 g3 g4 g5 g6 g7 g8
    exact jk_84_b101 e K lv g0 g2 g3 g4 g5 g6 g7 g8
  by_cases q11 : 0 ≤ (jw x10)
  · refine ey_zge (cd_84 rfl) rfl rfl q11 ?_
    refine ey_iload (cd_84 rfl) f10 ?_
    refine ey_iload (cd_84 rfl) f4 ?_
    by_cases q12 : (jw x10) < (jw x4)
    · refine ey_clt (cd_84 rfl) rfl rfl rfl q12 ?_
      refine ey_iload (cd_84 rfl) f10 ?_
      exact ey_rs (s0 := [jI x10, jI x5, jI x6, jI (8 + x8), jR x0]) (s1 := [jI (if 0 ≤ (jw x10) then (if (jw x10) < (jw x4) then x10 else (x4 - 1)) else 0), jI x5, jI x6, jI (8 + x8), jR x0]) (by rw [show ((if 0 ≤ (jw x10) then (if (jw x10) < (jw x4) then x10 else (x4 - 1)) else 0) : Int) = x10 from ((if_pos q11).trans (if_pos q12))]) (K10 lv f0 f2 f3 f4 f5 f6 f7 f8)
    · refine ey_nlt (cd_84 rfl) rfl rfl rfl q12 ?_
      refine ey_iload (cd_84 rfl) f4 ?_
      refine ey_iconst (cd_84 rfl) ?_
      refine ey_isub (cd_84 rfl) ?_
      refine ey_goto (cd_84 rfl) rfl ?_
      exact ey_rs (s0 := [jI (x4 - 1), jI x5, jI x6, jI (8 + x8), jR x0]) (s1 := [jI (if 0 ≤ (jw x10) then (if (jw x10) < (jw x4) then x10 else (x4 - 1)) else 0), jI x5, jI x6, jI (8 + x8), jR x0]) (by rw [show ((if 0 ≤ (jw x10) then (if (jw x10) < (jw x4) then x10 else (x4 - 1)) else 0) : Int) = (x4 - 1) from ((if_pos q11).trans (if_neg q12))]) (K10 lv f0 f2 f3 f4 f5 f6 f7 f8)
  · refine ey_yge (cd_84 rfl) rfl rfl q11 ?_
    refine ey_iconst (cd_84 rfl) ?_
    refine ey_goto (cd_84 rfl) rfl ?_
    exact ey_rs (s0 := [jI 0, jI x5, jI x6, jI (8 + x8), jR x0]) (s1 := [jI (if 0 ≤ (jw x10) then (if (jw x10) < (jw x4) then x10 else (x4 - 1)) else 0), jI x5, jI x6, jI (8 + x8), jR x0]) (by rw [show ((if 0 ≤ (jw x10) then (if (jw x10) < (jw x4) then x10 else (x4 - 1)) else 0) : Int) = 0 from (if_neg q11)]) (K10 lv f0 f2 f3 f4 f5 f6 f7 f8)
set_option maxRecDepth 100000 in
theorem jk_84_s10 {L : Nat} {xs : Nat → Int32} {x0 : Option Nat} {x2 : Int} {x3 : Int} {x4 : Int} {x5 : Int} {x6 : Int} {x7 : Int} {x8 : Int} {h : jH} {o : ((Int × jH) ⊕ jH)} {r : mm_R} (e : jd_84_s10 x0 x2 x3 x4 x5 x6 x7 x8 h = some o) (K : jsm (fun s => (∀ lv : jL, lv 0 = some (jR x0) → lv 2 = some (jI x2) → lv 3 = some (jI x3) → lv 4 = some (jI x4) → lv 5 = some (jI x5) → lv 6 = some (jI x6) → lv 7 = some (jI x7) → lv 8 = some (jI s.1) → ey (mm_xt L xs) 0 84 10 lv [] s.2 r)) (fun x => (∀ lv : jL, ey (mm_xt L xs) 0 84 110 lv [] x r)) o) : ∀ lv : jL, lv 0 = some (jR x0) → lv 2 = some (jI x2) → lv 3 = some (jI x3) → lv 4 = some (jI x4) → lv 5 = some (jI x5) → lv 6 = some (jI x6) → lv 7 = some (jI x7) → lv 8 = some (jI x8) → ey (mm_xt L xs) 0 84 10 lv [] h r := by
  intro lv f0 f2 f3 f4 f5 f6 f7 f8
  unfold jd_84_s10 at e
  refine ey_iload (cd_84 rfl) f8 ?_
  refine ey_iload_n (cd_84 rfl) f2 ?_
  by_cases q1 : (jw x2) ≤ (jw x8)
  · rw [if_pos q1] at e
    refine ey_cge (cd_84 rfl) rfl rfl rfl q1 ?_
    cases e
    exact K lv 
  · rw [if_neg q1] at e
    refine ey_nge (cd_84 rfl) rfl rfl rfl q1 ?_
    refine ey_iload (cd_84 rfl) f7 ?_
    refine ey_iload (cd_84 rfl) f8 ?_
    refine ey_iadd (cd_84 rfl) ?_
    refine ey_istore (cd_84 rfl) mt_84 rfl ?_
    refine ey_iload (cd_84 rfl) rfl ?_
    refine ey_iload_n (cd_84 rfl) f3 ?_
    refine ey_iconst (cd_84 rfl) ?_
    refine ey_iand (cd_84 rfl) ?_
    refine ey_iadd (cd_84 rfl) ?_
    refine ey_istore (cd_84 rfl) mt_84 rfl ?_
    refine ey_aload_n (cd_84 rfl) f0 ?_
    refine ey_iload (cd_84 rfl) (jup_o rfl (jup_pi (lv := lv) (j := 8) (v := jI (x7 + x8)) (z := x8) f8)) ?_
    refine ey_iload (cd_84 rfl) f6 ?_
    refine ey_iload (cd_84 rfl) f5 ?_
    refine ey_iload (cd_84 rfl) (jup_pi (lv := (jup lv 9 (jI (x7 + x8)))) (j := 9) (v := jI ((x7 + x8) + (jand x3 1))) (z := (x7 + x8)) rfl) ?_
    have K13 : ∀ lv : jL, lv 0 = some (jR x0) → lv 2 = some (jI x2) → lv 3 = some (jI x3) → lv 4 = some (jI x4) → lv 5 = some (jI x5) → lv 6 = some (jI x6) → lv 7 = some (jI x7) → lv 8 = some (jI x8) → lv 10 = some (jI ((x7 + x8) + (jand x3 1))) → ey (mm_xt L xs) 0 84 63 lv [jI (if 0 ≤ (jw (x7 + x8)) then (if (jw (x7 + x8)) < (jw x4) then (x7 + x8) else (x4 - 1)) else 0), jI x5, jI x6, jI x8, jR x0] h r := by
      intro lv g0 g2 g3 g4 g5 g6 g7 g8 g10
      exact jk_84_b63 e K lv g0 g2 g3 g4 g5 g6 g7 g8 g10
    by_cases q14 : 0 ≤ (jw (x7 + x8))
    · refine ey_zge (cd_84 rfl) rfl rfl q14 ?_
      refine ey_iload (cd_84 rfl) (jup_pi (lv := (jup lv 9 (jI (x7 + x8)))) (j := 9) (v := jI ((x7 + x8) + (jand x3 1))) (z := (x7 + x8)) rfl) ?_
      refine ey_iload (cd_84 rfl) f4 ?_
      by_cases q15 : (jw (x7 + x8)) < (jw x4)
      · refine ey_clt (cd_84 rfl) rfl rfl rfl q15 ?_
        refine ey_iload (cd_84 rfl) (jup_pi (lv := (jup lv 9 (jI (x7 + x8)))) (j := 9) (v := jI ((x7 + x8) + (jand x3 1))) (z := (x7 + x8)) rfl) ?_
        exact ey_rs (s0 := [jI (x7 + x8), jI x5, jI x6, jI x8, jR x0]) (s1 := [jI (if 0 ≤ (jw (x7 + x8)) then (if (jw (x7 + x8)) < (jw x4) then (x7 + x8) else (x4 - 1)) else 0), jI x5, jI x6, jI x8, jR x0]) (by rw [show ((if 0 ≤ (jw (x7 + x8)) then (if (jw (x7 + x8)) < (jw x4) then (x7 + x8) else (x4 - 1)) else 0) : Int) = (x7 + x8) from ((if_pos q14).trans (if_pos q15))]) (K13 (jup (jup lv 9 (jI (x7 + x8))) 10 (jI ((x7 + x8) + (jand x3 1)))) f0 f2 f3 f4 f5 f6 f7 (jup_o rfl (jup_pi (lv := lv) (j := 8) (v := jI (x7 + x8)) (z := x8) f8)) rfl)
      · refine ey_nlt (cd_84 rfl) rfl rfl rfl q15 ?_
        refine ey_iload (cd_84 rfl) f4 ?_
        refine ey_iconst (cd_84 rfl) ?_
        refine ey_isub (cd_84 rfl) ?_
        refine ey_goto (cd_84 rfl) rfl ?_
        exact ey_rs (s0 := [jI (x4 - 1), jI x5, jI x6, jI x8, jR x0]) (s1 := [jI (if 0 ≤ (jw (x7 + x8)) then (if (jw (x7 + x8)) < (jw x4) then (x7 + x8) else (x4 - 1)) else 0), jI x5, jI x6, jI x8, jR x0]) (by rw [show ((if 0 ≤ (jw (x7 + x8)) then (if (jw (x7 + x8)) < (jw x4) then (x7 + x8) else (x4 - 1)) else 0) : Int) = (x4 - 1) from ((if_pos q14).trans (if_neg q15))]) (K13 (jup (jup lv 9 (jI (x7 + x8))) 10 (jI ((x7 + x8) + (jand x3 1)))) f0 f2 f3 f4 f5 f6 f7 (jup_o rfl (jup_pi (lv := lv) (j := 8) (v := jI (x7 + x8)) (z := x8) f8)) rfl)
    · refine ey_yge (cd_84 rfl) rfl rfl q14 ?_
      refine ey_iconst (cd_84 rfl) ?_
      refine ey_goto (cd_84 rfl) rfl ?_
      exact ey_rs (s0 := [jI 0, jI x5, jI x6, jI x8, jR x0]) (s1 := [jI (if 0 ≤ (jw (x7 + x8)) then (if (jw (x7 + x8)) < (jw x4) then (x7 + x8) else (x4 - 1)) else 0), jI x5, jI x6, jI x8, jR x0]) (by rw [show ((if 0 ≤ (jw (x7 + x8)) then (if (jw (x7 + x8)) < (jw x4) then (x7 + x8) else (x4 - 1)) else 0) : Int) = 0 from (if_neg q14)]) (K13 (jup (jup lv 9 (jI (x7 + x8))) 10 (jI ((x7 + x8) + (jand x3 1)))) f0 f2 f3 f4 f5 f6 f7 (jup_o rfl (jup_pi (lv := lv) (j := 8) (v := jI (x7 + x8)) (z := x8) f8)) rfl)
theorem jk_84_l10 {L : Nat} {xs : Nat → Int32} {x0 : Option Nat} {x2 : Int} {x3 : Int} {x4 : Int} {x5 : Int} {x6 : Int} {x7 : Int} {x8 : Int} {h : jH} {x : jH} {r : mm_R} (e : jd_84_l10 x0 x2 x3 x4 x5 x6 x7 x8 h = some x) (K : (∀ lv : jL, ey (mm_xt L xs) 0 84 110 lv [] x r)) : ∀ lv : jL, lv 0 = some (jR x0) → lv 2 = some (jI x2) → lv 3 = some (jI x3) → lv 4 = some (jI x4) → lv 5 = some (jI x5) → lv 6 = some (jI x6) → lv 7 = some (jI x7) → lv 8 = some (jI x8) → ey (mm_xt L xs) 0 84 10 lv [] h r := by
  unfold jd_84_l10 at e
  exact jlp_ok2 (P := fun s => ∀ lv : jL, lv 0 = some (jR x0) → lv 2 = some (jI x2) → lv 3 = some (jI x3) → lv 4 = some (jI x4) → lv 5 = some (jI x5) → lv 6 = some (jI x6) → lv 7 = some (jI x7) → lv 8 = some (jI s.1) → ey (mm_xt L xs) 0 84 10 lv [] s.2 r) (Q := fun x => (∀ lv : jL, ey (mm_xt L xs) 0 84 110 lv [] x r)) (fun s q hq hk => jk_84_s10 hq hk) jfu _ x e K
set_option maxRecDepth 100000 in
theorem ok_84 {L : Nat} {xs : Nat → Int32} {p0 : Option Nat} {p1 : Int} {p2 : Int} {p3 : Int} {p4 : Int} {p5 : Int} {p6 : Int} {h : jH} {o : jH} (e : jd_84 p0 p1 p2 p3 p4 p5 p6 h = some o) : mm_Runs (mm_xt L xs) 1 84 ([jR p0, jI p1, jI p2, jI p3, jI p4, jI p5, jI p6].map jcv) (jaH h) (.inl (none, jaH o)) := by
  refine ey_run0 _ mt_84 (jsl_s rfl) ?_
  unfold jd_84 at e
  refine ey_iload_n (cd_84 rfl) rfl ?_
  refine ey_iload_n (cd_84 rfl) rfl ?_
  refine ey_iconst (cd_84 rfl) ?_
  refine ey_ishr (cd_84 rfl) ?_
  refine ey_iadd (cd_84 rfl) ?_
  refine ey_istore (cd_84 rfl) mt_84 rfl ?_
  refine ey_iconst (cd_84 rfl) ?_
  refine ey_istore (cd_84 rfl) mt_84 rfl ?_
  obtain ⟨x16, e17, e⟩ := jbind e
  refine jk_84_l10 e17 ?_ (jup (jup (jlf (jla 0 [jR p0, jI p1, jI p2, jI p3, jI p4, jI p5, jI p6])) 7 (jI (p1 + (jshr p3 1)))) 8 (jI 0)) rfl rfl rfl rfl rfl (jup_o rfl (jup_pi (lv := (jlf (jla 0 [jR p0, jI p1, jI p2, jI p3, jI p4, jI p5, jI p6]))) (j := 6) (v := jI (p1 + (jshr p3 1))) (z := p6) rfl)) (jup_pi (lv := (jup (jlf (jla 0 [jR p0, jI p1, jI p2, jI p3, jI p4, jI p5, jI p6])) 7 (jI (p1 + (jshr p3 1))))) (j := 7) (v := jI 0) (z := (p1 + (jshr p3 1))) rfl) rfl
  intro lv 
  cases e
  exact ey_retv (cd_84 rfl) mt_84 rfl
theorem cd_85 {pc : Nat} {i : Instr × Nat} (h : mm_lk mm_c85 pc = some i) : mm_cd 85 pc = some i := h
theorem mt_85 : mm_MT 85 = (5, 11, none, 6, 0, []) := rfl
set_option maxRecDepth 100000 in
theorem jk_85_b137 {L : Nat} {xs : Nat → Int32} {this : Nat} {x1 : Option Nat} {x2 : Int} {x4 : Int} {x5 : Option Nat} {x6 : Int} {x7 : Int} {x8 : Int} {x9 : Int} {x10 : Int} {h : jH} {o : ((Int × jH) ⊕ jH)} {r : mm_R} (e : jd_85_b137 this x1 x2 x4 x5 x6 x7 x8 x9 x10 h = some o) (K : jsm (fun s => (∀ lv : jL, lv 0 = some (jR (some this)) → lv 1 = some (jR x1) → lv 2 = some (jI x2) → lv 4 = some (jI x4) → lv 5 = some (jR x5) → lv 6 = some (jI x6) → lv 7 = some (jI x7) → lv 8 = some (jI x8) → lv 9 = some (jI s.1) → ey (mm_xt L xs) 0 85 22 lv [] s.2 r)) (fun x => (∀ lv : jL, ey (mm_xt L xs) 0 85 153 lv [] x r)) o) : ∀ lv : jL, lv 0 = some (jR (some this)) → lv 1 = some (jR x1) → lv 2 = some (jI x2) → lv 4 = some (jI x4) → lv 5 = some (jR x5) → lv 6 = some (jI x6) → lv 7 = some (jI x7) → lv 8 = some (jI x8) → lv 9 = some (jI x9) → lv 10 = some (jI x10) → ey (mm_xt L xs) 0 85 137 lv [] h r := by
  intro lv f0 f1 f2 f4 f5 f6 f7 f8 f9 f10
  unfold jd_85_b137 at e
  refine ey_aload (cd_85 rfl) f5 ?_
  refine ey_iload (cd_85 rfl) f6 ?_
  refine ey_iload (cd_85 rfl) f9 ?_
  refine ey_iadd (cd_85 rfl) ?_
  refine ey_iload (cd_85 rfl) f10 ?_
  obtain ⟨a35, e36, e⟩ := jbind e
  refine ey_rs (s0 := [jI x10, jI (x6 + x9), jR x5]) (s1 := [jI x10, jI (x6 + x9), jR (some a35)]) (by rw [e36]) ?_
  obtain ⟨h37, e38, e⟩ := jbind e
  refine ey_iast (cd_85 rfl) e38 ?_
  refine ey_iinc (cd_85 rfl) mt_85 rfl f9 ?_
  refine ey_goto (cd_85 rfl) rfl ?_
  cases e
  exact K (jup lv 9 (jI (x9 + 1))) f0 f1 f2 f4 f5 f6 f7 (jup_pi (lv := lv) (j := 8) (v := jI (x9 + 1)) (z := x8) f8) rfl
set_option maxRecDepth 100000 in
theorem jk_85_s22 {L : Nat} {xs : Nat → Int32} {this : Nat} {x1 : Option Nat} {x2 : Int} {x4 : Int} {x5 : Option Nat} {x6 : Int} {x7 : Int} {x8 : Int} {x9 : Int} {h : jH} {o : ((Int × jH) ⊕ jH)} {r : mm_R} (e : jd_85_s22 this x1 x2 x4 x5 x6 x7 x8 x9 h = some o) (K : jsm (fun s => (∀ lv : jL, lv 0 = some (jR (some this)) → lv 1 = some (jR x1) → lv 2 = some (jI x2) → lv 4 = some (jI x4) → lv 5 = some (jR x5) → lv 6 = some (jI x6) → lv 7 = some (jI x7) → lv 8 = some (jI x8) → lv 9 = some (jI s.1) → ey (mm_xt L xs) 0 85 22 lv [] s.2 r)) (fun x => (∀ lv : jL, ey (mm_xt L xs) 0 85 153 lv [] x r)) o) : ∀ lv : jL, lv 0 = some (jR (some this)) → lv 1 = some (jR x1) → lv 2 = some (jI x2) → lv 4 = some (jI x4) → lv 5 = some (jR x5) → lv 6 = some (jI x6) → lv 7 = some (jI x7) → lv 8 = some (jI x8) → lv 9 = some (jI x9) → ey (mm_xt L xs) 0 85 22 lv [] h r := by
  intro lv f0 f1 f2 f4 f5 f6 f7 f8 f9
  unfold jd_85_s22 at e
  refine ey_iload (cd_85 rfl) f9 ?_
  refine ey_iload (cd_85 rfl) f4 ?_
  by_cases q13 : (jw x4) ≤ (jw x9)
  · rw [if_pos q13] at e
    refine ey_cge (cd_85 rfl) rfl rfl rfl q13 ?_
    cases e
    exact K lv 
  · rw [if_neg q13] at e
    refine ey_nge (cd_85 rfl) rfl rfl rfl q13 ?_
    refine ey_aload_n (cd_85 rfl) f1 ?_
    refine ey_iload (cd_85 rfl) f7 ?_
    refine ey_aload_n (cd_85 rfl) f0 ?_
    obtain ⟨r14, e15, e⟩ := jbind e
    refine ey_getf_r (cd_85 rfl) mt_85 rfl rfl rfl e15 ?_
    refine ey_iload (cd_85 rfl) f9 ?_
    obtain ⟨a16, e17, e⟩ := jbind e
    refine ey_rs (s0 := [jI x9, jR r14, jI x7, jR x1]) (s1 := [jI x9, jR (some a16), jI x7, jR x1]) (by rw [e17]) ?_
    obtain ⟨v18, e19, e⟩ := jbind e
    refine ey_iald (cd_85 rfl) e19 ?_
    refine ey_iadd (cd_85 rfl) ?_
    obtain ⟨a20, e21, e⟩ := jbind e
    refine ey_rs (s0 := [jI (x7 + v18), jR x1]) (s1 := [jI (x7 + v18), jR (some a20)]) (by rw [e21]) ?_
    obtain ⟨v22, e23, e⟩ := jbind e
    refine ey_iald (cd_85 rfl) e23 ?_
    refine ey_istore (cd_85 rfl) mt_85 rfl ?_
    refine ey_iload_n (cd_85 rfl) f2 ?_
    refine ey_iconst (cd_85 rfl) ?_
    by_cases q24 : (jw x2) = 1
    · rw [if_pos q24] at e
      refine ey_nne (cd_85 rfl) rfl rfl (show jw 1 = 1 from by decide) (fun w => w q24) ?_
      refine ey_iload (cd_85 rfl) rfl ?_
      refine ey_aload_n (cd_85 rfl) f1 ?_
      refine ey_iload (cd_85 rfl) f8 ?_
      refine ey_aload_n (cd_85 rfl) f0 ?_
      obtain ⟨r25, e26, e⟩ := jbind e
      refine ey_getf_r (cd_85 rfl) mt_85 rfl rfl rfl e26 ?_
      refine ey_bipush (cd_85 rfl) (by decide) ?_
      refine ey_iload (cd_85 rfl) (jup_pi (lv := lv) (j := 9) (v := jI v22) (z := x9) f9) ?_
      refine ey_iadd (cd_85 rfl) ?_
      obtain ⟨a27, e28, e⟩ := jbind e
      refine ey_rs (s0 := [jI (8 + x9), jR r25, jI x8, jR x1, jI v22]) (s1 := [jI (8 + x9), jR (some a27), jI x8, jR x1, jI v22]) (by rw [e28]) ?_
      obtain ⟨v29, e30, e⟩ := jbind e
      refine ey_iald (cd_85 rfl) e30 ?_
      refine ey_iadd (cd_85 rfl) ?_
      obtain ⟨a31, e32, e⟩ := jbind e
      refine ey_rs (s0 := [jI (x8 + v29), jR x1, jI v22]) (s1 := [jI (x8 + v29), jR (some a31), jI v22]) (by rw [e32]) ?_
      obtain ⟨v33, e34, e⟩ := jbind e
      refine ey_iald (cd_85 rfl) e34 ?_
      refine ey_iadd (cd_85 rfl) ?_
      refine ey_iconst (cd_85 rfl) ?_
      refine ey_iadd (cd_85 rfl) ?_
      refine ey_iconst (cd_85 rfl) ?_
      refine ey_idiv (cd_85 rfl) (by decide) ?_
      refine ey_istore (cd_85 rfl) mt_85 rfl ?_
      refine ey_goto (cd_85 rfl) rfl ?_
      exact jk_85_b137 e K (jup (jup lv 10 (jI v22)) 10 (jI (jdiv ((v22 + v33) + 1) 2))) f0 f1 f2 f4 f5 f6 f7 f8 (jup_pi (lv := (jup lv 10 (jI v22))) (j := 9) (v := jI (jdiv ((v22 + v33) + 1) 2)) (z := x9) (jup_pi (lv := lv) (j := 9) (v := jI v22) (z := x9) f9)) rfl
    · rw [if_neg q24] at e
      refine ey_cne (cd_85 rfl) rfl rfl (show jw 1 = 1 from by decide) q24 ?_
      refine ey_iload_n (cd_85 rfl) f2 ?_
      refine ey_iconst (cd_85 rfl) ?_
      by_cases q39 : (jw x2) = 2
      · rw [if_pos q39] at e
        refine ey_nne (cd_85 rfl) rfl rfl (show jw 2 = 2 from by decide) (fun w => w q39) ?_
        refine ey_iload (cd_85 rfl) rfl ?_
        refine ey_aload_n (cd_85 rfl) f1 ?_
        refine ey_iload (cd_85 rfl) f7 ?_
        refine ey_aload_n (cd_85 rfl) f0 ?_
        obtain ⟨r40, e41, e⟩ := jbind e
        refine ey_getf_r (cd_85 rfl) mt_85 rfl rfl rfl e41 ?_
        refine ey_bipush (cd_85 rfl) (by decide) ?_
        refine ey_iload (cd_85 rfl) (jup_pi (lv := lv) (j := 9) (v := jI v22) (z := x9) f9) ?_
        refine ey_iadd (cd_85 rfl) ?_
        obtain ⟨a42, e43, e⟩ := jbind e
        refine ey_rs (s0 := [jI (8 + x9), jR r40, jI x7, jR x1, jI v22]) (s1 := [jI (8 + x9), jR (some a42), jI x7, jR x1, jI v22]) (by rw [e43]) ?_
        obtain ⟨v44, e45, e⟩ := jbind e
        refine ey_iald (cd_85 rfl) e45 ?_
        refine ey_iadd (cd_85 rfl) ?_
        obtain ⟨a46, e47, e⟩ := jbind e
        refine ey_rs (s0 := [jI (x7 + v44), jR x1, jI v22]) (s1 := [jI (x7 + v44), jR (some a46), jI v22]) (by rw [e47]) ?_
        obtain ⟨v48, e49, e⟩ := jbind e
        refine ey_iald (cd_85 rfl) e49 ?_
        refine ey_aload_n (cd_85 rfl) f1 ?_
        refine ey_iload (cd_85 rfl) f8 ?_
        refine ey_aload_n (cd_85 rfl) f0 ?_
        obtain ⟨r50, e51, e⟩ := jbind e
        refine ey_getf_r (cd_85 rfl) mt_85 rfl rfl rfl e51 ?_
        refine ey_iload (cd_85 rfl) (jup_pi (lv := lv) (j := 9) (v := jI v22) (z := x9) f9) ?_
        obtain ⟨a52, e53, e⟩ := jbind e
        refine ey_rs (s0 := [jI x9, jR r50, jI x8, jR x1, jI v48, jI v22]) (s1 := [jI x9, jR (some a52), jI x8, jR x1, jI v48, jI v22]) (by rw [e53]) ?_
        obtain ⟨v54, e55, e⟩ := jbind e
        refine ey_iald (cd_85 rfl) e55 ?_
        refine ey_iadd (cd_85 rfl) ?_
        obtain ⟨a56, e57, e⟩ := jbind e
        refine ey_rs (s0 := [jI (x8 + v54), jR x1, jI v48, jI v22]) (s1 := [jI (x8 + v54), jR (some a56), jI v48, jI v22]) (by rw [e57]) ?_
        obtain ⟨v58, e59, e⟩ := jbind e
        refine ey_iald (cd_85 rfl) e59 ?_
        refine ey_iadd (cd_85 rfl) ?_
        refine ey_iadd (cd_85 rfl) ?_
        refine ey_istore (cd_85 rfl) mt_85 rfl ?_
        refine ey_iload (cd_85 rfl) rfl ?_
        refine ey_aload_n (cd_85 rfl) f1 ?_
        refine ey_iload (cd_85 rfl) f8 ?_
        refine ey_aload_n (cd_85 rfl) f0 ?_
        obtain ⟨r60, e61, e⟩ := jbind e
        refine ey_getf_r (cd_85 rfl) mt_85 rfl rfl rfl e61 ?_
        refine ey_bipush (cd_85 rfl) (by decide) ?_
        refine ey_iload (cd_85 rfl) (jup_pi (lv := (jup lv 10 (jI v22))) (j := 9) (v := jI (v22 + (v48 + v58))) (z := x9) (jup_pi (lv := lv) (j := 9) (v := jI v22) (z := x9) f9)) ?_
        refine ey_iadd (cd_85 rfl) ?_
        obtain ⟨a62, e63, e⟩ := jbind e
        refine ey_rs (s0 := [jI (8 + x9), jR r60, jI x8, jR x1, jI (v22 + (v48 + v58))]) (s1 := [jI (8 + x9), jR (some a62), jI x8, jR x1, jI (v22 + (v48 + v58))]) (by rw [e63]) ?_
        obtain ⟨v64, e65, e⟩ := jbind e
        refine ey_iald (cd_85 rfl) e65 ?_
        refine ey_iadd (cd_85 rfl) ?_
        obtain ⟨a66, e67, e⟩ := jbind e
        refine ey_rs (s0 := [jI (x8 + v64), jR x1, jI (v22 + (v48 + v58))]) (s1 := [jI (x8 + v64), jR (some a66), jI (v22 + (v48 + v58))]) (by rw [e67]) ?_
        obtain ⟨v68, e69, e⟩ := jbind e
        refine ey_iald (cd_85 rfl) e69 ?_
        refine ey_iadd (cd_85 rfl) ?_
        refine ey_iconst (cd_85 rfl) ?_
        refine ey_iadd (cd_85 rfl) ?_
        refine ey_iconst (cd_85 rfl) ?_
        refine ey_idiv (cd_85 rfl) (by decide) ?_
        obtain ⟨z70, e71, e⟩ := jbind e
        refine ey_rs (s0 := [jI (jdiv (((v22 + (v48 + v58)) + v68) + 2) 4)]) (s1 := [jI z70]) (by rw [show (jdiv (((v22 + (v48 + v58)) + v68) + 2) 4) = z70 from Option.some.inj e71]) ?_
        refine ey_istore (cd_85 rfl) mt_85 rfl ?_
        exact jk_85_b137 e K (jup (jup (jup lv 10 (jI v22)) 10 (jI (v22 + (v48 + v58)))) 10 (jI z70)) f0 f1 f2 f4 f5 f6 f7 f8 (jup_pi (lv := (jup (jup lv 10 (jI v22)) 10 (jI (v22 + (v48 + v58))))) (j := 9) (v := jI z70) (z := x9) (jup_pi (lv := (jup lv 10 (jI v22))) (j := 9) (v := jI (v22 + (v48 + v58))) (z := x9) (jup_pi (lv := lv) (j := 9) (v := jI v22) (z := x9) f9))) rfl
      · rw [if_neg q39] at e
        refine ey_cne (cd_85 rfl) rfl rfl (show jw 2 = 2 from by decide) q39 ?_
        exact jk_85_b137 e K (jup lv 10 (jI v22)) f0 f1 f2 f4 f5 f6 f7 f8 (jup_pi (lv := lv) (j := 9) (v := jI v22) (z := x9) f9) rfl
theorem jk_85_l22 {L : Nat} {xs : Nat → Int32} {this : Nat} {x1 : Option Nat} {x2 : Int} {x4 : Int} {x5 : Option Nat} {x6 : Int} {x7 : Int} {x8 : Int} {x9 : Int} {h : jH} {x : jH} {r : mm_R} (e : jd_85_l22 this x1 x2 x4 x5 x6 x7 x8 x9 h = some x) (K : (∀ lv : jL, ey (mm_xt L xs) 0 85 153 lv [] x r)) : ∀ lv : jL, lv 0 = some (jR (some this)) → lv 1 = some (jR x1) → lv 2 = some (jI x2) → lv 4 = some (jI x4) → lv 5 = some (jR x5) → lv 6 = some (jI x6) → lv 7 = some (jI x7) → lv 8 = some (jI x8) → lv 9 = some (jI x9) → ey (mm_xt L xs) 0 85 22 lv [] h r := by
  unfold jd_85_l22 at e
  exact jlp_ok2 (P := fun s => ∀ lv : jL, lv 0 = some (jR (some this)) → lv 1 = some (jR x1) → lv 2 = some (jI x2) → lv 4 = some (jI x4) → lv 5 = some (jR x5) → lv 6 = some (jI x6) → lv 7 = some (jI x7) → lv 8 = some (jI x8) → lv 9 = some (jI s.1) → ey (mm_xt L xs) 0 85 22 lv [] s.2 r) (Q := fun x => (∀ lv : jL, ey (mm_xt L xs) 0 85 153 lv [] x r)) (fun s q hq hk => jk_85_s22 hq hk) jfu _ x e K
set_option maxRecDepth 100000 in
theorem ok_85 {L : Nat} {xs : Nat → Int32} {this : Nat} {p0 : Option Nat} {p1 : Int} {p2 : Int} {p3 : Int} {p4 : Option Nat} {p5 : Int} {h : jH} {o : jH} (e : jd_85 this p0 p1 p2 p3 p4 p5 h = some o) : mm_Runs (mm_xt L xs) 1 85 ([jR (some this), jR p0, jI p1, jI p2, jI p3, jR p4, jI p5].map jcv) (jaH h) (.inl (none, jaH o)) := by
  refine ey_run0 _ mt_85 (jsl_s rfl) ?_
  unfold jd_85 at e
  refine ey_aload_n (cd_85 rfl) rfl ?_
  obtain ⟨r1, e2, e⟩ := jbind e
  refine ey_getf_r (cd_85 rfl) mt_85 rfl rfl rfl e2 ?_
  refine ey_iload_n (cd_85 rfl) rfl ?_
  obtain ⟨a3, e4, e⟩ := jbind e
  refine ey_rs (s0 := [jI p2, jR r1]) (s1 := [jI p2, jR (some a3)]) (by rw [e4]) ?_
  obtain ⟨v5, e6, e⟩ := jbind e
  refine ey_iald (cd_85 rfl) e6 ?_
  refine ey_istore (cd_85 rfl) mt_85 rfl ?_
  refine ey_aload_n (cd_85 rfl) rfl ?_
  obtain ⟨r7, e8, e⟩ := jbind e
  refine ey_getf_r (cd_85 rfl) mt_85 rfl rfl rfl e8 ?_
  refine ey_bipush (cd_85 rfl) (by decide) ?_
  refine ey_iload_n (cd_85 rfl) rfl ?_
  refine ey_iadd (cd_85 rfl) ?_
  obtain ⟨a9, e10, e⟩ := jbind e
  refine ey_rs (s0 := [jI (8 + p2), jR r7]) (s1 := [jI (8 + p2), jR (some a9)]) (by rw [e10]) ?_
  obtain ⟨v11, e12, e⟩ := jbind e
  refine ey_iald (cd_85 rfl) e12 ?_
  refine ey_istore (cd_85 rfl) mt_85 rfl ?_
  refine ey_iconst (cd_85 rfl) ?_
  refine ey_istore (cd_85 rfl) mt_85 rfl ?_
  obtain ⟨x72, e73, e⟩ := jbind e
  refine jk_85_l22 e73 ?_ (jup (jup (jup (jlf (jla 0 [jR (some this), jR p0, jI p1, jI p2, jI p3, jR p4, jI p5])) 7 (jI v5)) 8 (jI v11)) 9 (jI 0)) rfl rfl rfl rfl rfl (jup_o rfl (jup_o rfl (jup_pi (lv := (jlf (jla 0 [jR (some this), jR p0, jI p1, jI p2, jI p3, jR p4, jI p5]))) (j := 6) (v := jI v5) (z := p5) rfl))) (jup_o rfl (jup_pi (lv := (jup (jlf (jla 0 [jR (some this), jR p0, jI p1, jI p2, jI p3, jR p4, jI p5])) 7 (jI v5))) (j := 7) (v := jI v11) (z := v5) rfl)) (jup_pi (lv := (jup (jup (jlf (jla 0 [jR (some this), jR p0, jI p1, jI p2, jI p3, jR p4, jI p5])) 7 (jI v5)) 8 (jI v11))) (j := 8) (v := jI 0) (z := v11) rfl) rfl
  intro lv 
  cases e
  exact ey_retv (cd_85 rfl) mt_85 rfl
theorem cd_83 {pc : Nat} {i : Instr × Nat} (h : mm_lk mm_c83 pc = some i) : mm_cd 83 pc = some i := h
theorem mt_83 : mm_MT 83 = (5, 10, some .int, 4, 0, []) := rfl
set_option maxRecDepth 100000 in
theorem jk_83_s132 {L : Nat} {xs : Nat → Int32} {this : Nat} {x1 : Option Nat} {x3 : Option Nat} {x4 : Int} {x5 : Int} {x6 : Int} {x8 : Int} {x7 : Int} {x9 : Int} {h : jH} {o : ((Int × Int) ⊕ Int)} {r : mm_R} (e : jd_83_s132 this x1 x3 x4 x5 x6 x8 x7 x9 h = some o) (K : jsm (fun s => (∀ lv : jL, lv 0 = some (jR (some this)) → lv 1 = some (jR x1) → lv 3 = some (jR x3) → lv 4 = some (jI x4) → lv 5 = some (jI x5) → lv 6 = some (jI x6) → lv 7 = some (jI s.1) → lv 8 = some (jI x8) → lv 9 = some (jI s.2) → ey (mm_xt L xs) 1 83 132 lv [] h r)) (fun x => (∀ lv : jL, lv 0 = some (jR (some this)) → lv 1 = some (jR x1) → lv 3 = some (jR x3) → lv 4 = some (jI x4) → lv 5 = some (jI x5) → lv 6 = some (jI x6) → lv 7 = some (jI x) → lv 8 = some (jI x8) → ey (mm_xt L xs) 1 83 171 lv [] h r)) o) : ∀ lv : jL, lv 0 = some (jR (some this)) → lv 1 = some (jR x1) → lv 3 = some (jR x3) → lv 4 = some (jI x4) → lv 5 = some (jI x5) → lv 6 = some (jI x6) → lv 7 = some (jI x7) → lv 8 = some (jI x8) → lv 9 = some (jI x9) → ey (mm_xt L xs) 1 83 132 lv [] h r := by
  intro lv f0 f1 f3 f4 f5 f6 f7 f8 f9
  unfold jd_83_s132 at e
  refine ey_iload (cd_83 rfl) f9 ?_
  refine ey_bipush (cd_83 rfl) (by decide) ?_
  refine ey_iload (cd_83 rfl) f8 ?_
  refine ey_imul (cd_83 rfl) ?_
  refine ey_bipush (cd_83 rfl) (by decide) ?_
  refine ey_iadd (cd_83 rfl) ?_
  by_cases q50 : (jw ((8 * x8) + 8)) ≤ (jw x9)
  · rw [if_pos q50] at e
    refine ey_cge (cd_83 rfl) rfl rfl rfl q50 ?_
    cases e
    exact K lv f0 f1 f3 f4 f5 f6 f7 f8
  · rw [if_neg q50] at e
    refine ey_nge (cd_83 rfl) rfl rfl rfl q50 ?_
    refine ey_iload (cd_83 rfl) f7 ?_
    refine ey_aload_n (cd_83 rfl) f3 ?_
    refine ey_iload (cd_83 rfl) f9 ?_
    obtain ⟨a51, e52, e⟩ := jbind e
    refine ey_rs (s0 := [jI x9, jR x3, jI x7]) (s1 := [jI x9, jR (some a51), jI x7]) (by rw [e52]) ?_
    obtain ⟨v53, e54, e⟩ := jbind e
    refine ey_iald (cd_83 rfl) e54 ?_
    refine ey_aload_n (cd_83 rfl) f0 ?_
    obtain ⟨r55, e56, e⟩ := jbind e
    refine ey_getf_r (cd_83 rfl) mt_83 rfl rfl rfl e56 ?_
    refine ey_iload (cd_83 rfl) f9 ?_
    obtain ⟨a57, e58, e⟩ := jbind e
    refine ey_rs (s0 := [jI x9, jR r55, jI v53, jI x7]) (s1 := [jI x9, jR (some a57), jI v53, jI x7]) (by rw [e58]) ?_
    obtain ⟨v59, e60, e⟩ := jbind e
    refine ey_iald (cd_83 rfl) e60 ?_
    refine ey_isub (cd_83 rfl) ?_
    refine ey_abs (cd_83 rfl) mt_83 rfl (jsml_s rfl) ?_
    refine ey_iadd (cd_83 rfl) ?_
    obtain ⟨z61, e62, e⟩ := jbind e
    refine ey_rs (s0 := [jI (x7 + (if 0 ≤ jw (v53 - v59) then (v53 - v59) else -(v53 - v59)))]) (s1 := [jI z61]) (by rw [show (x7 + (if 0 ≤ jw (v53 - v59) then (v53 - v59) else -(v53 - v59))) = z61 from Option.some.inj e62]) ?_
    refine ey_istore (cd_83 rfl) mt_83 rfl ?_
    refine ey_iinc (cd_83 rfl) mt_83 rfl f9 ?_
    refine ey_goto (cd_83 rfl) rfl ?_
    cases e
    exact K (jup (jup lv 7 (jI z61)) 9 (jI (x9 + 1))) f0 f1 f3 f4 f5 (jup_o rfl (jup_pi (lv := lv) (j := 6) (v := jI z61) (z := x6) f6)) rfl (jup_pi (lv := (jup lv 7 (jI z61))) (j := 8) (v := jI (x9 + 1)) (z := x8) f8) rfl
theorem jk_83_l132 {L : Nat} {xs : Nat → Int32} {this : Nat} {x1 : Option Nat} {x3 : Option Nat} {x4 : Int} {x5 : Int} {x6 : Int} {x8 : Int} {x7 : Int} {x9 : Int} {h : jH} {x : Int} {r : mm_R} (e : jd_83_l132 this x1 x3 x4 x5 x6 x8 x7 x9 h = some x) (K : (∀ lv : jL, lv 0 = some (jR (some this)) → lv 1 = some (jR x1) → lv 3 = some (jR x3) → lv 4 = some (jI x4) → lv 5 = some (jI x5) → lv 6 = some (jI x6) → lv 7 = some (jI x) → lv 8 = some (jI x8) → ey (mm_xt L xs) 1 83 171 lv [] h r)) : ∀ lv : jL, lv 0 = some (jR (some this)) → lv 1 = some (jR x1) → lv 3 = some (jR x3) → lv 4 = some (jI x4) → lv 5 = some (jI x5) → lv 6 = some (jI x6) → lv 7 = some (jI x7) → lv 8 = some (jI x8) → lv 9 = some (jI x9) → ey (mm_xt L xs) 1 83 132 lv [] h r := by
  unfold jd_83_l132 at e
  exact jlp_ok2 (P := fun s => ∀ lv : jL, lv 0 = some (jR (some this)) → lv 1 = some (jR x1) → lv 3 = some (jR x3) → lv 4 = some (jI x4) → lv 5 = some (jI x5) → lv 6 = some (jI x6) → lv 7 = some (jI s.1) → lv 8 = some (jI x8) → lv 9 = some (jI s.2) → ey (mm_xt L xs) 1 83 132 lv [] h r) (Q := fun x => (∀ lv : jL, lv 0 = some (jR (some this)) → lv 1 = some (jR x1) → lv 3 = some (jR x3) → lv 4 = some (jI x4) → lv 5 = some (jI x5) → lv 6 = some (jI x6) → lv 7 = some (jI x) → lv 8 = some (jI x8) → ey (mm_xt L xs) 1 83 171 lv [] h r)) (fun s q hq hk => jk_83_s132 hq hk) jfu _ x e K
set_option maxRecDepth 100000 in
theorem jk_83_s81 {L : Nat} {xs : Nat → Int32} {this : Nat} {x1 : Option Nat} {x3 : Option Nat} {x4 : Int} {x5 : Int} {x6 : Int} {x7 : Int} {x8 : Int} {h : jH} {o : ((Int × Int × jH) ⊕ (Int × jH))} {r : mm_R} (e : jd_83_s81 this x1 x3 x4 x5 x6 x7 x8 h = some o) (K : jsm (fun s => (∀ lv : jL, lv 0 = some (jR (some this)) → lv 1 = some (jR x1) → lv 3 = some (jR x3) → lv 4 = some (jI x4) → lv 5 = some (jI x5) → lv 6 = some (jI x6) → lv 7 = some (jI s.1) → lv 8 = some (jI s.2.1) → ey (mm_xt L xs) 1 83 81 lv [] s.2.2 r)) (fun x => (∀ lv : jL, lv 7 = some (jI x.1) → ey (mm_xt L xs) 1 83 177 lv [] x.2 r)) o) : ∀ lv : jL, lv 0 = some (jR (some this)) → lv 1 = some (jR x1) → lv 3 = some (jR x3) → lv 4 = some (jI x4) → lv 5 = some (jI x5) → lv 6 = some (jI x6) → lv 7 = some (jI x7) → lv 8 = some (jI x8) → ey (mm_xt L xs) 1 83 81 lv [] h r := by
  intro lv f0 f1 f3 f4 f5 f6 f7 f8
  unfold jd_83_s81 at e
  refine ey_iload (cd_83 rfl) f8 ?_
  refine ey_bipush (cd_83 rfl) (by decide) ?_
  by_cases q38 : 8 ≤ (jw x8)
  · rw [if_pos q38] at e
    refine ey_cge (cd_83 rfl) rfl rfl (show jw 8 = 8 from by decide) q38 ?_
    cases e
    exact K lv f7
  · rw [if_neg q38] at e
    refine ey_nge (cd_83 rfl) rfl rfl (show jw 8 = 8 from by decide) q38 ?_
    refine ey_iload (cd_83 rfl) f7 ?_
    refine ey_iload (cd_83 rfl) f4 ?_
    by_cases q39 : (jw x4) ≤ (jw x7)
    · rw [if_pos q39] at e
      refine ey_cge (cd_83 rfl) rfl rfl rfl q39 ?_
      cases e
      exact K lv f7
    · rw [if_neg q39] at e
      refine ey_nge (cd_83 rfl) rfl rfl rfl q39 ?_
      refine ey_aload_n (cd_83 rfl) f0 ?_
      refine ey_aload_n (cd_83 rfl) f1 ?_
      obtain ⟨a40, e41, e⟩ := jbind e
      refine ey_rs (s0 := [jR x1, jR (some this)]) (s1 := [jR (some a40), jR (some this)]) (by rw [e41]) ?_
      obtain ⟨r42, e43, e⟩ := jbind e
      refine ey_getf_r (cd_83 rfl) mt_83 rfl rfl rfl e43 ?_
      refine ey_iload (cd_83 rfl) f5 ?_
      refine ey_iconst (cd_83 rfl) ?_
      refine ey_iand (cd_83 rfl) ?_
      refine ey_iload (cd_83 rfl) f6 ?_
      refine ey_iconst (cd_83 rfl) ?_
      refine ey_iand (cd_83 rfl) ?_
      refine ey_iadd (cd_83 rfl) ?_
      refine ey_iload (cd_83 rfl) f8 ?_
      refine ey_bipush (cd_83 rfl) (by decide) ?_
      refine ey_aload_n (cd_83 rfl) f0 ?_
      obtain ⟨r44, e45, e⟩ := jbind e
      refine ey_getf_r (cd_83 rfl) mt_83 rfl rfl rfl e45 ?_
      refine ey_bipush (cd_83 rfl) (by decide) ?_
      refine ey_iload (cd_83 rfl) f8 ?_
      refine ey_imul (cd_83 rfl) ?_
      obtain ⟨u46, e47, e⟩ := jbind e
      obtain ⟨h48, e49, e⟩ := jbind e
      refine ey_cv (s0 := [jI (8 * x8), jR r44, jI 8, jI x8, jI ((jand x5 1) + (jand x6 1)), jR r42, jR (some this)]) (s1 := []) (st' := []) (cd_83 rfl) mt_83 mt_85 rfl rfl rfl (jck_s e47) rfl (jsml_s rfl) rfl (ok_85 e49) ?_
      refine ey_bipush (cd_83 rfl) (by decide) ?_
      refine ey_iload (cd_83 rfl) f8 ?_
      refine ey_imul (cd_83 rfl) ?_
      refine ey_istore (cd_83 rfl) mt_83 rfl ?_
      obtain ⟨x63, e64, e⟩ := jbind e
      refine jk_83_l132 e64 ?_ (jup lv 9 (jI (8 * x8))) f0 f1 f3 f4 f5 f6 f7 (jup_pi (lv := lv) (j := 8) (v := jI (8 * x8)) (z := x8) f8) rfl
      intro lv g0 g1 g3 g4 g5 g6 g7 g8
      refine ey_iinc (cd_83 rfl) mt_83 rfl g8 ?_
      refine ey_goto (cd_83 rfl) rfl ?_
      cases e
      exact K (jup lv 8 (jI (x8 + 1))) g0 g1 g3 g4 g5 g6 (jup_pi (lv := lv) (j := 7) (v := jI (x8 + 1)) (z := x63) g7) rfl
theorem jk_83_l81 {L : Nat} {xs : Nat → Int32} {this : Nat} {x1 : Option Nat} {x3 : Option Nat} {x4 : Int} {x5 : Int} {x6 : Int} {x7 : Int} {x8 : Int} {h : jH} {x : (Int × jH)} {r : mm_R} (e : jd_83_l81 this x1 x3 x4 x5 x6 x7 x8 h = some x) (K : (∀ lv : jL, lv 7 = some (jI x.1) → ey (mm_xt L xs) 1 83 177 lv [] x.2 r)) : ∀ lv : jL, lv 0 = some (jR (some this)) → lv 1 = some (jR x1) → lv 3 = some (jR x3) → lv 4 = some (jI x4) → lv 5 = some (jI x5) → lv 6 = some (jI x6) → lv 7 = some (jI x7) → lv 8 = some (jI x8) → ey (mm_xt L xs) 1 83 81 lv [] h r := by
  unfold jd_83_l81 at e
  exact jlp_ok2 (P := fun s => ∀ lv : jL, lv 0 = some (jR (some this)) → lv 1 = some (jR x1) → lv 3 = some (jR x3) → lv 4 = some (jI x4) → lv 5 = some (jI x5) → lv 6 = some (jI x6) → lv 7 = some (jI s.1) → lv 8 = some (jI s.2.1) → ey (mm_xt L xs) 1 83 81 lv [] s.2.2 r) (Q := fun x => (∀ lv : jL, lv 7 = some (jI x.1) → ey (mm_xt L xs) 1 83 177 lv [] x.2 r)) (fun s q hq hk => jk_83_s81 hq hk) jfu _ x e K
set_option maxRecDepth 100000 in
theorem ok_83 {L : Nat} {xs : Nat → Int32} {this : Nat} {p0 : Option Nat} {p1 : Int} {p2 : Option Nat} {p3 : Int} {h : jH} {o : (Int × jH)} (e : jd_83 this p0 p1 p2 p3 h = some o) : mm_Runs (mm_xt L xs) 2 83 ([jR (some this), jR p0, jI p1, jR p2, jI p3].map jcv) (jaH h) (.inl (some (jcv (jI o.1)), jaH o.2)) := by
  refine ey_run0 _ mt_83 (jsl_s rfl) ?_
  unfold jd_83 at e
  refine ey_aload_n (cd_83 rfl) rfl ?_
  by_cases q1 : p0 = none
  · rw [if_pos q1] at e
    refine ey_rs (s0 := [jR p0]) (s1 := [jR none]) (by rw [q1]) ?_
    refine ey_ifnonnull_n (cd_83 rfl) rfl ?_
    refine ey_iconst (cd_83 rfl) ?_
    cases e
    exact ey_reti (cd_83 rfl) mt_83 rfl
  · rw [if_neg q1] at e
    obtain ⟨w67, w67e⟩ := Option.ne_none_iff_exists'.mp q1
    refine ey_rs (s0 := [jR p0]) (s1 := [jR (some w67)]) (by rw [w67e]) ?_
    refine ey_ifnonnull_s (cd_83 rfl) rfl ?_
    refine ey_aload_n (cd_83 rfl) rfl ?_
    obtain ⟨r2, e3, e⟩ := jbind e
    refine ey_getf_r (cd_83 rfl) mt_83 rfl rfl rfl e3 ?_
    refine ey_iload_n (cd_83 rfl) rfl ?_
    obtain ⟨a4, e5, e⟩ := jbind e
    refine ey_rs (s0 := [jI p1, jR r2]) (s1 := [jI p1, jR (some a4)]) (by rw [e5]) ?_
    obtain ⟨v6, e7, e⟩ := jbind e
    refine ey_iald (cd_83 rfl) e7 ?_
    refine ey_istore (cd_83 rfl) mt_83 rfl ?_
    refine ey_aload_n (cd_83 rfl) rfl ?_
    obtain ⟨r8, e9, e⟩ := jbind e
    refine ey_getf_r (cd_83 rfl) mt_83 rfl rfl rfl e9 ?_
    refine ey_iload_n (cd_83 rfl) rfl ?_
    refine ey_iconst (cd_83 rfl) ?_
    refine ey_iadd (cd_83 rfl) ?_
    obtain ⟨a10, e11, e⟩ := jbind e
    refine ey_rs (s0 := [jI (p1 + 1), jR r8]) (s1 := [jI (p1 + 1), jR (some a10)]) (by rw [e11]) ?_
    obtain ⟨v12, e13, e⟩ := jbind e
    refine ey_iald (cd_83 rfl) e13 ?_
    refine ey_istore (cd_83 rfl) mt_83 rfl ?_
    refine ey_aload_n (cd_83 rfl) rfl ?_
    obtain ⟨r14, e15, e⟩ := jbind e
    refine ey_getf_r (cd_83 rfl) mt_83 rfl rfl rfl e15 ?_
    refine ey_aload_n (cd_83 rfl) rfl ?_
    obtain ⟨v16, e17, e⟩ := jbind e
    refine ey_getf_i (cd_83 rfl) mt_83 rfl rfl rfl e17 ?_
    refine ey_bipush (cd_83 rfl) (by decide) ?_
    refine ey_imul (cd_83 rfl) ?_
    refine ey_bipush (cd_83 rfl) (by decide) ?_
    refine ey_iload (cd_83 rfl) (jup_pi (lv := (jup (jlf (jla 0 [jR (some this), jR p0, jI p1, jR p2, jI p3])) 5 (jI v6))) (j := 5) (v := jI v12) (z := v6) rfl) ?_
    refine ey_aload_n (cd_83 rfl) rfl ?_
    obtain ⟨a18, e19, e⟩ := jbind e
    refine ey_rs (s0 := [jR p0, jI v6, jI 8, jI (v16 * 8), jR r14]) (s1 := [jR (some a18), jI v6, jI 8, jI (v16 * 8), jR r14]) (by rw [e19]) ?_
    obtain ⟨v20, e21, e⟩ := jbind e
    refine ey_getf_i (cd_83 rfl) mt_83 rfl rfl rfl e21 ?_
    refine ey_iconst (cd_83 rfl) ?_
    refine ey_iconst (cd_83 rfl) ?_
    obtain ⟨h22, e23, e⟩ := jbind e
    refine ey_cs (s0 := [jI 0, jI 1, jI v20, jI v6, jI 8, jI (v16 * 8), jR r14]) (s1 := []) (st' := []) (cd_83 rfl) mt_83 mt_84 rfl (by decide) rfl rfl (jsml_s rfl) rfl (ok_84 e23) ?_
    refine ey_aload_n (cd_83 rfl) rfl ?_
    obtain ⟨r24, e25, e⟩ := jbind e
    refine ey_getf_r (cd_83 rfl) mt_83 rfl rfl rfl e25 ?_
    refine ey_aload_n (cd_83 rfl) rfl ?_
    obtain ⟨v26, e27, e⟩ := jbind e
    refine ey_getf_i (cd_83 rfl) mt_83 rfl rfl rfl e27 ?_
    refine ey_bipush (cd_83 rfl) (by decide) ?_
    refine ey_imul (cd_83 rfl) ?_
    refine ey_bipush (cd_83 rfl) (by decide) ?_
    refine ey_iload (cd_83 rfl) rfl ?_
    refine ey_aload_n (cd_83 rfl) rfl ?_
    obtain ⟨a28, e29, e⟩ := jbind e
    refine ey_rs (s0 := [jR p0, jI v12, jI 8, jI (v26 * 8), jR r24]) (s1 := [jR (some a28), jI v12, jI 8, jI (v26 * 8), jR r24]) (by rw [e29]) ?_
    obtain ⟨v30, e31, e⟩ := jbind e
    refine ey_getf_i (cd_83 rfl) mt_83 rfl rfl rfl e31 ?_
    refine ey_aload_n (cd_83 rfl) rfl ?_
    obtain ⟨a32, e33, e⟩ := jbind e
    refine ey_rs (s0 := [jR p0, jI v30, jI v12, jI 8, jI (v26 * 8), jR r24]) (s1 := [jR (some a32), jI v30, jI v12, jI 8, jI (v26 * 8), jR r24]) (by rw [e33]) ?_
    obtain ⟨v34, e35, e⟩ := jbind e
    refine ey_getf_i (cd_83 rfl) mt_83 rfl rfl rfl e35 ?_
    refine ey_iconst (cd_83 rfl) ?_
    obtain ⟨h36, e37, e⟩ := jbind e
    refine ey_cs (s0 := [jI 0, jI v34, jI v30, jI v12, jI 8, jI (v26 * 8), jR r24]) (s1 := []) (st' := []) (cd_83 rfl) mt_83 mt_84 rfl (by decide) rfl rfl (jsml_s rfl) rfl (ok_84 e37) ?_
    refine ey_iconst (cd_83 rfl) ?_
    refine ey_istore (cd_83 rfl) mt_83 rfl ?_
    refine ey_iconst (cd_83 rfl) ?_
    refine ey_istore (cd_83 rfl) mt_83 rfl ?_
    obtain ⟨x65, e66, e⟩ := jbind e
    refine jk_83_l81 e66 ?_ (jup (jup (jup (jup (jlf (jla 0 [jR (some this), jR p0, jI p1, jR p2, jI p3])) 5 (jI v6)) 6 (jI v12)) 7 (jI 0)) 8 (jI 0)) rfl rfl rfl (jup_o rfl (jup_o rfl (jup_o rfl (jup_pi (lv := (jlf (jla 0 [jR (some this), jR p0, jI p1, jR p2, jI p3]))) (j := 4) (v := jI v6) (z := p3) rfl)))) (jup_o rfl (jup_o rfl (jup_pi (lv := (jup (jlf (jla 0 [jR (some this), jR p0, jI p1, jR p2, jI p3])) 5 (jI v6))) (j := 5) (v := jI v12) (z := v6) rfl))) (jup_o rfl (jup_pi (lv := (jup (jup (jlf (jla 0 [jR (some this), jR p0, jI p1, jR p2, jI p3])) 5 (jI v6)) 6 (jI v12))) (j := 6) (v := jI 0) (z := v12) rfl)) (jup_pi (lv := (jup (jup (jup (jlf (jla 0 [jR (some this), jR p0, jI p1, jR p2, jI p3])) 5 (jI v6)) 6 (jI v12)) 7 (jI 0))) (j := 7) (v := jI 0) (z := 0) rfl) rfl
    intro lv g7
    refine ey_iload (cd_83 rfl) g7 ?_
    cases e
    exact ey_reti (cd_83 rfl) mt_83 rfl
theorem cd_17 {pc : Nat} {i : Instr × Nat} (h : mm_lk mm_c17 pc = some i) : mm_cd 17 pc = some i := h
theorem mt_17 : mm_MT 17 = (1, 8, none, 3, 0, []) := rfl
set_option maxRecDepth 100000 in
theorem jk_17_b135 {L : Nat} {xs : Nat → Int32} {this : Nat} {x1 : Option Nat} {x2 : Int} {x3 : Int} {x4 : Int} {x5 : Int} {x6 : Int} {h : jH} {o : ((Int × Int × jH) ⊕ (Int × jH))} {r : mm_R} (e : jd_17_b135 this x1 x2 x3 x4 x5 x6 h = some o) (K : jsm (fun s => (∀ lv : jL, lv 0 = some (jR (some this)) → lv 1 = some (jR x1) → lv 2 = some (jI x2) → lv 3 = some (jI x3) → lv 4 = some (jI s.1) → lv 5 = some (jI x5) → lv 6 = some (jI s.2.1) → ey (mm_xt L xs) 2 17 18 lv [] s.2.2 r)) (fun x => (∀ lv : jL, lv 0 = some (jR (some this)) → lv 1 = some (jR x1) → lv 2 = some (jI x2) → lv 3 = some (jI x3) → lv 4 = some (jI x.1) → lv 5 = some (jI x5) → ey (mm_xt L xs) 2 17 141 lv [] x.2 r)) o) : ∀ lv : jL, lv 0 = some (jR (some this)) → lv 1 = some (jR x1) → lv 2 = some (jI x2) → lv 3 = some (jI x3) → lv 4 = some (jI x4) → lv 5 = some (jI x5) → lv 6 = some (jI x6) → ey (mm_xt L xs) 2 17 135 lv [] h r := by
  intro lv f0 f1 f2 f3 f4 f5 f6
  unfold jd_17_b135 at e
  refine ey_iinc (cd_17 rfl) mt_17 rfl f6 ?_
  refine ey_goto (cd_17 rfl) rfl ?_
  cases e
  exact K (jup lv 6 (jI (x6 + 1))) f0 f1 f2 f3 f4 (jup_pi (lv := lv) (j := 5) (v := jI (x6 + 1)) (z := x5) f5) rfl
set_option maxRecDepth 100000 in
theorem jk_17_s18 {L : Nat} {xs : Nat → Int32} {this : Nat} {x1 : Option Nat} {x2 : Int} {x3 : Int} {x5 : Int} {x4 : Int} {x6 : Int} {h : jH} {o : ((Int × Int × jH) ⊕ (Int × jH))} {r : mm_R} (e : jd_17_s18 this x1 x2 x3 x5 x4 x6 h = some o) (K : jsm (fun s => (∀ lv : jL, lv 0 = some (jR (some this)) → lv 1 = some (jR x1) → lv 2 = some (jI x2) → lv 3 = some (jI x3) → lv 4 = some (jI s.1) → lv 5 = some (jI x5) → lv 6 = some (jI s.2.1) → ey (mm_xt L xs) 2 17 18 lv [] s.2.2 r)) (fun x => (∀ lv : jL, lv 0 = some (jR (some this)) → lv 1 = some (jR x1) → lv 2 = some (jI x2) → lv 3 = some (jI x3) → lv 4 = some (jI x.1) → lv 5 = some (jI x5) → ey (mm_xt L xs) 2 17 141 lv [] x.2 r)) o) : ∀ lv : jL, lv 0 = some (jR (some this)) → lv 1 = some (jR x1) → lv 2 = some (jI x2) → lv 3 = some (jI x3) → lv 4 = some (jI x4) → lv 5 = some (jI x5) → lv 6 = some (jI x6) → ey (mm_xt L xs) 2 17 18 lv [] h r := by
  intro lv f0 f1 f2 f3 f4 f5 f6
  unfold jd_17_s18 at e
  refine ey_iload (cd_17 rfl) f6 ?_
  refine ey_iload_n (cd_17 rfl) f3 ?_
  by_cases q2 : (jw x3) < (jw x6)
  · rw [if_pos q2] at e
    refine ey_cgt (cd_17 rfl) rfl rfl rfl q2 ?_
    cases e
    exact K lv f0 f1 f2 f3 f4 f5
  · rw [if_neg q2] at e
    refine ey_ngt (cd_17 rfl) rfl rfl rfl q2 ?_
    refine ey_aload_n (cd_17 rfl) f0 ?_
    obtain ⟨r3, e4, e⟩ := jbind e
    refine ey_getf_r (cd_17 rfl) mt_17 rfl rfl rfl e4 ?_
    obtain ⟨a5, e6, e⟩ := jbind e
    refine ey_rs (s0 := [jR r3]) (s1 := [jR (some a5)]) (by rw [e6]) ?_
    obtain ⟨r7, e8, e⟩ := jbind e
    refine ey_getf_r (cd_17 rfl) mt_17 rfl rfl rfl e8 ?_
    refine ey_iload_n (cd_17 rfl) f2 ?_
    refine ey_iload (cd_17 rfl) f6 ?_
    obtain ⟨a9, e10, e⟩ := jbind e
    refine ey_rs (s0 := [jI x6, jI x2, jR r7]) (s1 := [jI x6, jI x2, jR (some a9)]) (by rw [e10]) ?_
    obtain ⟨h11, e12, e⟩ := jbind e
    refine ey_iast (cd_17 rfl) e12 ?_
    refine ey_aload_n (cd_17 rfl) f0 ?_
    obtain ⟨r13, e14, e⟩ := jbind e
    refine ey_getf_r (cd_17 rfl) mt_17 rfl rfl rfl e14 ?_
    obtain ⟨a15, e16, e⟩ := jbind e
    refine ey_rs (s0 := [jR r13]) (s1 := [jR (some a15)]) (by rw [e16]) ?_
    obtain ⟨r17, e18, e⟩ := jbind e
    refine ey_getf_r (cd_17 rfl) mt_17 rfl rfl rfl e18 ?_
    refine ey_iload_n (cd_17 rfl) f2 ?_
    refine ey_iconst (cd_17 rfl) ?_
    refine ey_iadd (cd_17 rfl) ?_
    refine ey_iload (cd_17 rfl) f5 ?_
    obtain ⟨a19, e20, e⟩ := jbind e
    refine ey_rs (s0 := [jI x5, jI (x2 + 1), jR r17]) (s1 := [jI x5, jI (x2 + 1), jR (some a19)]) (by rw [e20]) ?_
    obtain ⟨h21, e22, e⟩ := jbind e
    refine ey_iast (cd_17 rfl) e22 ?_
    refine ey_iload (cd_17 rfl) f6 ?_
    refine ey_aload_n (cd_17 rfl) f0 ?_
    obtain ⟨r23, e24, e⟩ := jbind e
    refine ey_getf_r (cd_17 rfl) mt_17 rfl rfl rfl e24 ?_
    obtain ⟨a25, e26, e⟩ := jbind e
    refine ey_rs (s0 := [jR r23, jI x6]) (s1 := [jR (some a25), jI x6]) (by rw [e26]) ?_
    obtain ⟨r27, e28, e⟩ := jbind e
    refine ey_getf_r (cd_17 rfl) mt_17 rfl rfl rfl e28 ?_
    refine ey_iload_n (cd_17 rfl) f2 ?_
    obtain ⟨a29, e30, e⟩ := jbind e
    refine ey_rs (s0 := [jI x2, jR r27, jI x6]) (s1 := [jI x2, jR (some a29), jI x6]) (by rw [e30]) ?_
    obtain ⟨v31, e32, e⟩ := jbind e
    refine ey_iald (cd_17 rfl) e32 ?_
    refine ey_isub (cd_17 rfl) ?_
    obtain ⟨v33, e34, e⟩ := jbind e
    refine ey_cs (s0 := [jI (x6 - v31)]) (s1 := []) (st' := [jI v33]) (cd_17 rfl) mt_17 mt_13 rfl (by decide) rfl rfl (jsml_s rfl) rfl (ok_13 e34) ?_
    refine ey_iload (cd_17 rfl) f5 ?_
    refine ey_aload_n (cd_17 rfl) f0 ?_
    obtain ⟨r35, e36, e⟩ := jbind e
    refine ey_getf_r (cd_17 rfl) mt_17 rfl rfl rfl e36 ?_
    obtain ⟨a37, e38, e⟩ := jbind e
    refine ey_rs (s0 := [jR r35, jI x5, jI v33]) (s1 := [jR (some a37), jI x5, jI v33]) (by rw [e38]) ?_
    obtain ⟨r39, e40, e⟩ := jbind e
    refine ey_getf_r (cd_17 rfl) mt_17 rfl rfl rfl e40 ?_
    refine ey_iload_n (cd_17 rfl) f2 ?_
    refine ey_iconst (cd_17 rfl) ?_
    refine ey_iadd (cd_17 rfl) ?_
    obtain ⟨a41, e42, e⟩ := jbind e
    refine ey_rs (s0 := [jI (x2 + 1), jR r39, jI x5, jI v33]) (s1 := [jI (x2 + 1), jR (some a41), jI x5, jI v33]) (by rw [e42]) ?_
    obtain ⟨v43, e44, e⟩ := jbind e
    refine ey_iald (cd_17 rfl) e44 ?_
    refine ey_isub (cd_17 rfl) ?_
    obtain ⟨v45, e46, e⟩ := jbind e
    refine ey_cs (s0 := [jI (x5 - v43), jI v33]) (s1 := [jI v33]) (st' := [jI v45, jI v33]) (cd_17 rfl) mt_17 mt_13 rfl (by decide) rfl rfl (jsml_s rfl) rfl (ok_13 e46) ?_
    refine ey_iadd (cd_17 rfl) ?_
    refine ey_istore (cd_17 rfl) mt_17 rfl ?_
    refine ey_iload (cd_17 rfl) rfl ?_
    refine ey_aload_n (cd_17 rfl) f0 ?_
    obtain ⟨r47, e48, e⟩ := jbind e
    refine ey_getf_r (cd_17 rfl) mt_17 rfl rfl rfl e48 ?_
    refine ey_aload_n (cd_17 rfl) f1 ?_
    refine ey_iload_n (cd_17 rfl) f2 ?_
    refine ey_aload_n (cd_17 rfl) f0 ?_
    obtain ⟨r49, e50, e⟩ := jbind e
    refine ey_getf_r (cd_17 rfl) mt_17 rfl rfl rfl e50 ?_
    refine ey_iload (cd_17 rfl) f4 ?_
    refine ey_iload (cd_17 rfl) rfl ?_
    refine ey_isub (cd_17 rfl) ?_
    obtain ⟨a51, e52, e⟩ := jbind e
    refine ey_rs (s0 := [jI (x4 - (v33 + v45)), jR r49, jI x2, jR x1, jR r47, jI (v33 + v45)]) (s1 := [jI (x4 - (v33 + v45)), jR r49, jI x2, jR x1, jR (some a51), jI (v33 + v45)]) (by rw [e52]) ?_
    obtain ⟨u53, e54, e⟩ := jbind e
    obtain ⟨q55, e56, e⟩ := jbind e
    refine ey_cv (s0 := [jI (x4 - (v33 + v45)), jR r49, jI x2, jR x1, jR (some a51), jI (v33 + v45)]) (s1 := [jI (v33 + v45)]) (st' := [jI q55.1, jI (v33 + v45)]) (cd_17 rfl) mt_17 mt_83 rfl rfl rfl (jck_s e54) rfl (jsml_s rfl) rfl (ok_83 e56) ?_
    refine ey_iadd (cd_17 rfl) ?_
    refine ey_istore (cd_17 rfl) mt_17 rfl ?_
    refine ey_iload (cd_17 rfl) rfl ?_
    refine ey_iload (cd_17 rfl) f4 ?_
    by_cases q57 : (jw x4) ≤ (jw ((v33 + v45) + q55.1))
    · rw [if_pos q57] at e
      refine ey_cge (cd_17 rfl) rfl rfl rfl q57 ?_
      exact jk_17_b135 e K (jup (jup lv 7 (jI (v33 + v45))) 7 (jI ((v33 + v45) + q55.1))) f0 f1 f2 f3 f4 f5 (jup_pi (lv := (jup lv 7 (jI (v33 + v45)))) (j := 6) (v := jI ((v33 + v45) + q55.1)) (z := x6) (jup_pi (lv := lv) (j := 6) (v := jI (v33 + v45)) (z := x6) f6))
    · rw [if_neg q57] at e
      refine ey_nge (cd_17 rfl) rfl rfl rfl q57 ?_
      refine ey_iload (cd_17 rfl) rfl ?_
      refine ey_istore (cd_17 rfl) mt_17 rfl ?_
      refine ey_aload_n (cd_17 rfl) f0 ?_
      obtain ⟨r58, e59, e⟩ := jbind e
      refine ey_getf_r (cd_17 rfl) mt_17 rfl rfl rfl e59 ?_
      refine ey_iload_n (cd_17 rfl) f2 ?_
      refine ey_iload (cd_17 rfl) (jup_o rfl (jup_pi (lv := (jup lv 7 (jI (v33 + v45)))) (j := 6) (v := jI ((v33 + v45) + q55.1)) (z := x6) (jup_pi (lv := lv) (j := 6) (v := jI (v33 + v45)) (z := x6) f6))) ?_
      obtain ⟨a60, e61, e⟩ := jbind e
      refine ey_rs (s0 := [jI x6, jI x2, jR r58]) (s1 := [jI x6, jI x2, jR (some a60)]) (by rw [e61]) ?_
      obtain ⟨h62, e63, e⟩ := jbind e
      refine ey_iast (cd_17 rfl) e63 ?_
      refine ey_aload_n (cd_17 rfl) f0 ?_
      obtain ⟨r64, e65, e⟩ := jbind e
      refine ey_getf_r (cd_17 rfl) mt_17 rfl rfl rfl e65 ?_
      refine ey_iload_n (cd_17 rfl) f2 ?_
      refine ey_iconst (cd_17 rfl) ?_
      refine ey_iadd (cd_17 rfl) ?_
      refine ey_iload (cd_17 rfl) f5 ?_
      obtain ⟨a66, e67, e⟩ := jbind e
      refine ey_rs (s0 := [jI x5, jI (x2 + 1), jR r64]) (s1 := [jI x5, jI (x2 + 1), jR (some a66)]) (by rw [e67]) ?_
      obtain ⟨h68, e69, e⟩ := jbind e
      refine ey_iast (cd_17 rfl) e69 ?_
      exact jk_17_b135 e K (jup (jup (jup lv 7 (jI (v33 + v45))) 7 (jI ((v33 + v45) + q55.1))) 4 (jI ((v33 + v45) + q55.1))) f0 f1 f2 (jup_pi (lv := (jup (jup lv 7 (jI (v33 + v45))) 7 (jI ((v33 + v45) + q55.1)))) (j := 3) (v := jI ((v33 + v45) + q55.1)) (z := x3) f3) rfl f5 (jup_o rfl (jup_pi (lv := (jup lv 7 (jI (v33 + v45)))) (j := 6) (v := jI ((v33 + v45) + q55.1)) (z := x6) (jup_pi (lv := lv) (j := 6) (v := jI (v33 + v45)) (z := x6) f6)))
theorem jk_17_l18 {L : Nat} {xs : Nat → Int32} {this : Nat} {x1 : Option Nat} {x2 : Int} {x3 : Int} {x5 : Int} {x4 : Int} {x6 : Int} {h : jH} {x : (Int × jH)} {r : mm_R} (e : jd_17_l18 this x1 x2 x3 x5 x4 x6 h = some x) (K : (∀ lv : jL, lv 0 = some (jR (some this)) → lv 1 = some (jR x1) → lv 2 = some (jI x2) → lv 3 = some (jI x3) → lv 4 = some (jI x.1) → lv 5 = some (jI x5) → ey (mm_xt L xs) 2 17 141 lv [] x.2 r)) : ∀ lv : jL, lv 0 = some (jR (some this)) → lv 1 = some (jR x1) → lv 2 = some (jI x2) → lv 3 = some (jI x3) → lv 4 = some (jI x4) → lv 5 = some (jI x5) → lv 6 = some (jI x6) → ey (mm_xt L xs) 2 17 18 lv [] h r := by
  unfold jd_17_l18 at e
  exact jlp_ok2 (P := fun s => ∀ lv : jL, lv 0 = some (jR (some this)) → lv 1 = some (jR x1) → lv 2 = some (jI x2) → lv 3 = some (jI x3) → lv 4 = some (jI s.1) → lv 5 = some (jI x5) → lv 6 = some (jI s.2.1) → ey (mm_xt L xs) 2 17 18 lv [] s.2.2 r) (Q := fun x => (∀ lv : jL, lv 0 = some (jR (some this)) → lv 1 = some (jR x1) → lv 2 = some (jI x2) → lv 3 = some (jI x3) → lv 4 = some (jI x.1) → lv 5 = some (jI x5) → ey (mm_xt L xs) 2 17 141 lv [] x.2 r)) (fun s q hq hk => jk_17_s18 hq hk) jfu _ x e K
set_option maxRecDepth 100000 in
theorem jk_17_s8 {L : Nat} {xs : Nat → Int32} {this : Nat} {x1 : Option Nat} {x2 : Int} {x3 : Int} {x4 : Int} {x5 : Int} {h : jH} {o : ((Int × Int × jH) ⊕ jH)} {r : mm_R} (e : jd_17_s8 this x1 x2 x3 x4 x5 h = some o) (K : jsm (fun s => (∀ lv : jL, lv 0 = some (jR (some this)) → lv 1 = some (jR x1) → lv 2 = some (jI x2) → lv 3 = some (jI x3) → lv 4 = some (jI s.1) → lv 5 = some (jI s.2.1) → ey (mm_xt L xs) 2 17 8 lv [] s.2.2 r)) (fun x => (∀ lv : jL, ey (mm_xt L xs) 2 17 147 lv [] x r)) o) : ∀ lv : jL, lv 0 = some (jR (some this)) → lv 1 = some (jR x1) → lv 2 = some (jI x2) → lv 3 = some (jI x3) → lv 4 = some (jI x4) → lv 5 = some (jI x5) → ey (mm_xt L xs) 2 17 8 lv [] h r := by
  intro lv f0 f1 f2 f3 f4 f5
  unfold jd_17_s8 at e
  refine ey_iload (cd_17 rfl) f5 ?_
  refine ey_iload_n (cd_17 rfl) f3 ?_
  by_cases q1 : (jw x3) < (jw x5)
  · rw [if_pos q1] at e
    refine ey_cgt (cd_17 rfl) rfl rfl rfl q1 ?_
    cases e
    exact K lv 
  · rw [if_neg q1] at e
    refine ey_ngt (cd_17 rfl) rfl rfl rfl q1 ?_
    refine ey_iload_n (cd_17 rfl) f3 ?_
    refine ey_ineg (cd_17 rfl) ?_
    refine ey_istore (cd_17 rfl) mt_17 rfl ?_
    obtain ⟨x70, e71, e⟩ := jbind e
    refine jk_17_l18 e71 ?_ (jup lv 6 (jI (-x3))) f0 f1 f2 f3 f4 (jup_pi (lv := lv) (j := 5) (v := jI (-x3)) (z := x5) f5) rfl
    intro lv g0 g1 g2 g3 g4 g5
    refine ey_iinc (cd_17 rfl) mt_17 rfl g5 ?_
    refine ey_goto (cd_17 rfl) rfl ?_
    cases e
    exact K (jup lv 5 (jI (x5 + 1))) g0 g1 g2 g3 (jup_pi (lv := lv) (j := 4) (v := jI (x5 + 1)) (z := x70.1) g4) rfl
theorem jk_17_l8 {L : Nat} {xs : Nat → Int32} {this : Nat} {x1 : Option Nat} {x2 : Int} {x3 : Int} {x4 : Int} {x5 : Int} {h : jH} {x : jH} {r : mm_R} (e : jd_17_l8 this x1 x2 x3 x4 x5 h = some x) (K : (∀ lv : jL, ey (mm_xt L xs) 2 17 147 lv [] x r)) : ∀ lv : jL, lv 0 = some (jR (some this)) → lv 1 = some (jR x1) → lv 2 = some (jI x2) → lv 3 = some (jI x3) → lv 4 = some (jI x4) → lv 5 = some (jI x5) → ey (mm_xt L xs) 2 17 8 lv [] h r := by
  unfold jd_17_l8 at e
  exact jlp_ok2 (P := fun s => ∀ lv : jL, lv 0 = some (jR (some this)) → lv 1 = some (jR x1) → lv 2 = some (jI x2) → lv 3 = some (jI x3) → lv 4 = some (jI s.1) → lv 5 = some (jI s.2.1) → ey (mm_xt L xs) 2 17 8 lv [] s.2.2 r) (Q := fun x => (∀ lv : jL, ey (mm_xt L xs) 2 17 147 lv [] x r)) (fun s q hq hk => jk_17_s8 hq hk) jfu _ x e K
set_option maxRecDepth 100000 in
theorem ok_17 {L : Nat} {xs : Nat → Int32} {this : Nat} {p0 : Option Nat} {p1 : Int} {p2 : Int} {h : jH} {o : jH} (e : jd_17 this p0 p1 p2 h = some o) : mm_Runs (mm_xt L xs) 3 17 ([jR (some this), jR p0, jI p1, jI p2].map jcv) (jaH h) (.inl (none, jaH o)) := by
  refine ey_run0 _ mt_17 (jsl_s rfl) ?_
  unfold jd_17 at e
  refine ey_ldc (z := 2147483647) (cd_17 rfl) mt_17 rfl (by decide) ?_
  refine ey_istore (cd_17 rfl) mt_17 rfl ?_
  refine ey_iload_n (cd_17 rfl) (jup_pi (lv := (jlf (jla 0 [jR (some this), jR p0, jI p1, jI p2]))) (j := 3) (v := jI 2147483647) (z := p2) rfl) ?_
  refine ey_ineg (cd_17 rfl) ?_
  refine ey_istore (cd_17 rfl) mt_17 rfl ?_
  obtain ⟨x72, e73, e⟩ := jbind e
  refine jk_17_l8 e73 ?_ (jup (jup (jlf (jla 0 [jR (some this), jR p0, jI p1, jI p2])) 4 (jI 2147483647)) 5 (jI (-p2))) rfl rfl rfl (jup_o rfl (jup_pi (lv := (jlf (jla 0 [jR (some this), jR p0, jI p1, jI p2]))) (j := 3) (v := jI 2147483647) (z := p2) rfl)) (jup_pi (lv := (jup (jlf (jla 0 [jR (some this), jR p0, jI p1, jI p2])) 4 (jI 2147483647))) (j := 4) (v := jI (-p2)) (z := 2147483647) rfl) rfl
  intro lv 
  cases e
  exact ey_retv (cd_17 rfl) mt_17 rfl
theorem cd_76 {pc : Nat} {i : Instr × Nat} (h : mm_lk mm_c76 pc = some i) : mm_cd 76 pc = some i := h
theorem mt_76 : mm_MT 76 = (5, 2, some .int, 1, 0, []) := rfl
set_option maxRecDepth 100000 in
theorem jk_76_b35 {L : Nat} {xs : Nat → Int32} {this : Nat} {y0 : Int} {h : jH} {o : Int} (e : jd_76_b35 this y0 h = some o) : ∀ lv : jL, ey (mm_xt L xs) 0 76 35 lv [jI y0] h (.inl (some (jcv (jI o)), jaH h)) := by
  intro lv 
  unfold jd_76_b35 at e
  cases e
  exact ey_reti (cd_76 rfl) mt_76 rfl
set_option maxRecDepth 100000 in
theorem ok_76 {L : Nat} {xs : Nat → Int32} {this : Nat} {p0 : Int} {h : jH} {o : Int} (e : jd_76 this p0 h = some o) : mm_Runs (mm_xt L xs) 1 76 ([jR (some this), jI p0].map jcv) (jaH h) (.inl (some (jcv (jI o)), jaH h)) := by
  refine ey_run0 _ mt_76 (jsl_s rfl) ?_
  unfold jd_76 at e
  refine ey_aload_n (cd_76 rfl) rfl ?_
  obtain ⟨v1, e2, e⟩ := jbind e
  refine ey_getf_i (cd_76 rfl) mt_76 rfl rfl rfl e2 ?_
  refine ey_iconst (cd_76 rfl) ?_
  by_cases q3 : (jw v1) = 2
  · rw [if_pos q3] at e
    refine ey_nne (cd_76 rfl) rfl rfl (show jw 2 = 2 from by decide) (fun w => w q3) ?_
    refine ey_iload_n (cd_76 rfl) rfl ?_
    cases e
    exact ey_reti (cd_76 rfl) mt_76 rfl
  · rw [if_neg q3] at e
    refine ey_cne (cd_76 rfl) rfl rfl (show jw 2 = 2 from by decide) q3 ?_
    refine ey_aload_n (cd_76 rfl) rfl ?_
    obtain ⟨v4, e5, e⟩ := jbind e
    refine ey_getf_i (cd_76 rfl) mt_76 rfl rfl rfl e5 ?_
    have K6 : ∀ lv : jL, ey (mm_xt L xs) 0 76 35 lv [jI (if (jw v4) = 0 then (p0 + 4) else (if 2 ≤ (jw p0) then (p0 + 2) else p0))] h (.inl (some (jcv (jI o)), jaH h)) := by
      intro lv 
      exact jk_76_b35 e lv 
    by_cases q7 : (jw v4) = 0
    · refine ey_yne (cd_76 rfl) rfl rfl (fun w => w q7) ?_
      refine ey_iload_n (cd_76 rfl) rfl ?_
      refine ey_iconst (cd_76 rfl) ?_
      refine ey_iadd (cd_76 rfl) ?_
      refine ey_goto (cd_76 rfl) rfl ?_
      exact ey_rs (s0 := [jI (p0 + 4)]) (s1 := [jI (if (jw v4) = 0 then (p0 + 4) else (if 2 ≤ (jw p0) then (p0 + 2) else p0))]) (by rw [show ((if (jw v4) = 0 then (p0 + 4) else (if 2 ≤ (jw p0) then (p0 + 2) else p0)) : Int) = (p0 + 4) from (if_pos q7)]) (K6 (jlf (jla 0 [jR (some this), jI p0])) )
    · refine ey_zne (cd_76 rfl) rfl rfl q7 ?_
      refine ey_iload_n (cd_76 rfl) rfl ?_
      refine ey_iconst (cd_76 rfl) ?_
      by_cases q8 : 2 ≤ (jw p0)
      · refine ey_cge (cd_76 rfl) rfl rfl (show jw 2 = 2 from by decide) q8 ?_
        refine ey_iload_n (cd_76 rfl) rfl ?_
        refine ey_iconst (cd_76 rfl) ?_
        refine ey_iadd (cd_76 rfl) ?_
        exact ey_rs (s0 := [jI (p0 + 2)]) (s1 := [jI (if (jw v4) = 0 then (p0 + 4) else (if 2 ≤ (jw p0) then (p0 + 2) else p0))]) (by rw [show ((if (jw v4) = 0 then (p0 + 4) else (if 2 ≤ (jw p0) then (p0 + 2) else p0)) : Int) = (p0 + 2) from ((if_neg q7).trans (if_pos q8))]) (K6 (jlf (jla 0 [jR (some this), jI p0])) )
      · refine ey_nge (cd_76 rfl) rfl rfl (show jw 2 = 2 from by decide) q8 ?_
        refine ey_iload_n (cd_76 rfl) rfl ?_
        refine ey_goto (cd_76 rfl) rfl ?_
        exact ey_rs (s0 := [jI p0]) (s1 := [jI (if (jw v4) = 0 then (p0 + 4) else (if 2 ≤ (jw p0) then (p0 + 2) else p0))]) (by rw [show ((if (jw v4) = 0 then (p0 + 4) else (if 2 ≤ (jw p0) then (p0 + 2) else p0)) : Int) = p0 from ((if_neg q7).trans (if_neg q8))]) (K6 (jlf (jla 0 [jR (some this), jI p0])) )
theorem cd_77 {pc : Nat} {i : Instr × Nat} (h : mm_lk mm_c77 pc = some i) : mm_cd 77 pc = some i := h
theorem mt_77 : mm_MT 77 = (5, 2, some .boolean, 2, 1, []) := rfl
theorem bo_77 {p0 : Int} {p1 : Int} : jd_77 p0 p1 = 0 ∨ jd_77 p0 p1 = 1 := by
  unfold jd_77
  exact (jbo_ite (Or.inr rfl) (jbo_ite (jbo_ite (Or.inr rfl) (Or.inl rfl)) (jbo_ite (Or.inr rfl) (Or.inl rfl))))
set_option maxRecDepth 100000 in
theorem ok_77 {L : Nat} {xs : Nat → Int32} {p0 : Int} {p1 : Int} {h : jH} : mm_Runs (mm_xt L xs) 1 77 ([jI p0, jI p1].map jcv) (jaH h) (.inl (some (jcv (jI (jd_77 p0 p1))), jaH h)) := by
  refine ey_run0 _ mt_77 (jsl_s rfl) ?_
  refine ey_iload_n (cd_77 rfl) rfl ?_
  refine ey_iconst (cd_77 rfl) ?_
  by_cases q1 : (jw p0) = 3
  · refine ey_ceq (cd_77 rfl) rfl rfl (show jw 3 = 3 from by decide) q1 ?_
    refine ey_iconst (cd_77 rfl) ?_
    refine ey_goto (cd_77 rfl) rfl ?_
    rw [show (jd_77 p0 p1) = 1 from by unfold jd_77; exact (if_pos q1)]
    exact ey_retz (cd_77 rfl) mt_77 rfl (Or.inr rfl)
  · refine ey_neq (cd_77 rfl) rfl rfl (show jw 3 = 3 from by decide) q1 ?_
    refine ey_iload_n (cd_77 rfl) rfl ?_
    refine ey_iload_n (cd_77 rfl) rfl ?_
    refine ey_iconst (cd_77 rfl) ?_
    by_cases q2 : 2 ≤ (jw p1)
    · refine ey_cge (cd_77 rfl) rfl rfl (show jw 2 = 2 from by decide) q2 ?_
      refine ey_iconst (cd_77 rfl) ?_
      by_cases q3 : (jw p0) = 2
      · refine ey_nne (cd_77 rfl) rfl rfl (show jw 2 = 2 from by decide) (fun w => w q3) ?_
        refine ey_iconst (cd_77 rfl) ?_
        refine ey_goto (cd_77 rfl) rfl ?_
        rw [show (jd_77 p0 p1) = 1 from by unfold jd_77; exact ((if_neg q1).trans ((if_pos q2).trans (if_pos q3)))]
        exact ey_retz (cd_77 rfl) mt_77 rfl (Or.inr rfl)
      · refine ey_cne (cd_77 rfl) rfl rfl (show jw 2 = 2 from by decide) q3 ?_
        refine ey_iconst (cd_77 rfl) ?_
        rw [show (jd_77 p0 p1) = 0 from by unfold jd_77; exact ((if_neg q1).trans ((if_pos q2).trans (if_neg q3)))]
        exact ey_retz (cd_77 rfl) mt_77 rfl (Or.inl rfl)
    · refine ey_nge (cd_77 rfl) rfl rfl (show jw 2 = 2 from by decide) q2 ?_
      refine ey_iconst (cd_77 rfl) ?_
      refine ey_goto (cd_77 rfl) rfl ?_
      by_cases q4 : (jw p0) = 1
      · refine ey_nne (cd_77 rfl) rfl rfl (show jw 1 = 1 from by decide) (fun w => w q4) ?_
        refine ey_iconst (cd_77 rfl) ?_
        refine ey_goto (cd_77 rfl) rfl ?_
        rw [show (jd_77 p0 p1) = 1 from by unfold jd_77; exact ((if_neg q1).trans ((if_neg q2).trans (if_pos q4)))]
        exact ey_retz (cd_77 rfl) mt_77 rfl (Or.inr rfl)
      · refine ey_cne (cd_77 rfl) rfl rfl (show jw 1 = 1 from by decide) q4 ?_
        refine ey_iconst (cd_77 rfl) ?_
        rw [show (jd_77 p0 p1) = 0 from by unfold jd_77; exact ((if_neg q1).trans ((if_neg q2).trans (if_neg q4)))]
        exact ey_retz (cd_77 rfl) mt_77 rfl (Or.inl rfl)
theorem cd_89 {pc : Nat} {i : Instr × Nat} (h : mm_lk mm_c89 pc = some i) : mm_cd 89 pc = some i := h
theorem mt_89 : mm_MT 89 = (5, 4, some .int, 1, 0, []) := rfl
set_option maxRecDepth 100000 in
theorem jk_89_s7 {L : Nat} {xs : Nat → Int32} {this : Nat} {x1 : Int} {x2 : Int} {x3 : Int} {h : jH} {o : ((Int × Int) ⊕ Int)} {r : mm_R} (e : jd_89_s7 this x1 x2 x3 h = some o) (K : jsm (fun s => (∀ lv : jL, lv 0 = some (jR (some this)) → lv 1 = some (jI x1) → lv 2 = some (jI s.1) → lv 3 = some (jI s.2) → ey (mm_xt L xs) 0 89 7 lv [] h r)) (fun x => (∀ lv : jL, lv 2 = some (jI x) → ey (mm_xt L xs) 0 89 41 lv [] h r)) o) : ∀ lv : jL, lv 0 = some (jR (some this)) → lv 1 = some (jI x1) → lv 2 = some (jI x2) → lv 3 = some (jI x3) → ey (mm_xt L xs) 0 89 7 lv [] h r := by
  intro lv f0 f1 f2 f3
  unfold jd_89_s7 at e
  refine ey_iload_n (cd_89 rfl) f3 ?_
  refine ey_bipush (cd_89 rfl) (by decide) ?_
  refine ey_iload_n (cd_89 rfl) f1 ?_
  refine ey_imul (cd_89 rfl) ?_
  refine ey_bipush (cd_89 rfl) (by decide) ?_
  refine ey_iadd (cd_89 rfl) ?_
  by_cases q1 : (jw ((16 * x1) + 16)) ≤ (jw x3)
  · rw [if_pos q1] at e
    refine ey_cge (cd_89 rfl) rfl rfl rfl q1 ?_
    cases e
    exact K lv f2
  · rw [if_neg q1] at e
    refine ey_nge (cd_89 rfl) rfl rfl rfl q1 ?_
    refine ey_iload_n (cd_89 rfl) f2 ?_
    refine ey_aload_n (cd_89 rfl) f0 ?_
    obtain ⟨r2, e3, e⟩ := jbind e
    refine ey_getf_r (cd_89 rfl) mt_89 rfl rfl rfl e3 ?_
    refine ey_iload_n (cd_89 rfl) f3 ?_
    obtain ⟨a4, e5, e⟩ := jbind e
    refine ey_rs (s0 := [jI x3, jR r2, jI x2]) (s1 := [jI x3, jR (some a4), jI x2]) (by rw [e5]) ?_
    obtain ⟨v6, e7, e⟩ := jbind e
    refine ey_iald (cd_89 rfl) e7 ?_
    have K10 : ∀ lv : jL, lv 0 = some (jR (some this)) → lv 1 = some (jI x1) → lv 3 = some (jI x3) → ey (mm_xt L xs) 0 89 33 lv [jI (if (jw v6) = 0 then 0 else 1), jI x2] h r := by
      intro lv g0 g1 g3
      refine ey_iadd (cd_89 rfl) ?_
      obtain ⟨z8, e9, e⟩ := jbind e
      refine ey_rs (s0 := [jI (x2 + (if (jw v6) = 0 then 0 else 1))]) (s1 := [jI z8]) (by rw [show (x2 + (if (jw v6) = 0 then 0 else 1)) = z8 from Option.some.inj e9]) ?_
      refine ey_istore_n (cd_89 rfl) mt_89 rfl ?_
      refine ey_iinc (cd_89 rfl) mt_89 rfl g3 ?_
      refine ey_goto (cd_89 rfl) rfl ?_
      cases e
      exact K (jup (jup lv 2 (jI z8)) 3 (jI (x3 + 1))) g0 (jup_o rfl (jup_pi (lv := lv) (j := 1) (v := jI z8) (z := x1) g1)) (jup_pi (lv := (jup lv 2 (jI z8))) (j := 2) (v := jI (x3 + 1)) (z := z8) rfl) rfl
    by_cases q11 : (jw v6) = 0
    · refine ey_zeq (cd_89 rfl) rfl rfl q11 ?_
      refine ey_iconst (cd_89 rfl) ?_
      exact ey_rs (s0 := [jI 0, jI x2]) (s1 := [jI (if (jw v6) = 0 then 0 else 1), jI x2]) (by rw [show ((if (jw v6) = 0 then 0 else 1) : Int) = 0 from (if_pos q11)]) (K10 lv f0 f1 f3)
    · refine ey_yeq (cd_89 rfl) rfl rfl q11 ?_
      refine ey_iconst (cd_89 rfl) ?_
      refine ey_goto (cd_89 rfl) rfl ?_
      exact ey_rs (s0 := [jI 1, jI x2]) (s1 := [jI (if (jw v6) = 0 then 0 else 1), jI x2]) (by rw [show ((if (jw v6) = 0 then 0 else 1) : Int) = 1 from (if_neg q11)]) (K10 lv f0 f1 f3)
theorem jk_89_l7 {L : Nat} {xs : Nat → Int32} {this : Nat} {x1 : Int} {x2 : Int} {x3 : Int} {h : jH} {x : Int} {r : mm_R} (e : jd_89_l7 this x1 x2 x3 h = some x) (K : (∀ lv : jL, lv 2 = some (jI x) → ey (mm_xt L xs) 0 89 41 lv [] h r)) : ∀ lv : jL, lv 0 = some (jR (some this)) → lv 1 = some (jI x1) → lv 2 = some (jI x2) → lv 3 = some (jI x3) → ey (mm_xt L xs) 0 89 7 lv [] h r := by
  unfold jd_89_l7 at e
  exact jlp_ok2 (P := fun s => ∀ lv : jL, lv 0 = some (jR (some this)) → lv 1 = some (jI x1) → lv 2 = some (jI s.1) → lv 3 = some (jI s.2) → ey (mm_xt L xs) 0 89 7 lv [] h r) (Q := fun x => (∀ lv : jL, lv 2 = some (jI x) → ey (mm_xt L xs) 0 89 41 lv [] h r)) (fun s q hq hk => jk_89_s7 hq hk) jfu _ x e K
set_option maxRecDepth 100000 in
theorem ok_89 {L : Nat} {xs : Nat → Int32} {this : Nat} {p0 : Int} {h : jH} {o : Int} (e : jd_89 this p0 h = some o) : mm_Runs (mm_xt L xs) 1 89 ([jR (some this), jI p0].map jcv) (jaH h) (.inl (some (jcv (jI o)), jaH h)) := by
  refine ey_run0 _ mt_89 (jsl_s rfl) ?_
  unfold jd_89 at e
  refine ey_iconst (cd_89 rfl) ?_
  refine ey_istore_n (cd_89 rfl) mt_89 rfl ?_
  refine ey_bipush (cd_89 rfl) (by decide) ?_
  refine ey_iload_n (cd_89 rfl) (jup_pi (lv := (jlf (jla 0 [jR (some this), jI p0]))) (j := 1) (v := jI 0) (z := p0) rfl) ?_
  refine ey_imul (cd_89 rfl) ?_
  refine ey_istore_n (cd_89 rfl) mt_89 rfl ?_
  obtain ⟨x12, e13, e⟩ := jbind e
  refine jk_89_l7 e13 ?_ (jup (jup (jlf (jla 0 [jR (some this), jI p0])) 2 (jI 0)) 3 (jI (16 * p0))) rfl (jup_o rfl (jup_pi (lv := (jlf (jla 0 [jR (some this), jI p0]))) (j := 1) (v := jI 0) (z := p0) rfl)) (jup_pi (lv := (jup (jlf (jla 0 [jR (some this), jI p0])) 2 (jI 0))) (j := 2) (v := jI (16 * p0)) (z := 0) rfl) rfl
  intro lv g2
  refine ey_iload_n (cd_89 rfl) g2 ?_
  cases e
  exact ey_reti (cd_89 rfl) mt_89 rfl
theorem cd_20 {pc : Nat} {i : Instr × Nat} (h : mm_lk mm_c20 pc = some i) : mm_cd 20 pc = some i := h
theorem mt_20 : mm_MT 20 = (1, 7, none, 2, 0, []) := rfl
set_option maxRecDepth 100000 in
theorem jk_20_b60 {L : Nat} {xs : Nat → Int32} {this : Nat} {x1 : Option Nat} {x3 : Int} {x4 : Int} {h : jH} {o : ((Int × jH) ⊕ jH)} {r : mm_R} (e : jd_20_b60 this x1 x3 x4 h = some o) (K : jsm (fun s => (∀ lv : jL, lv 0 = some (jR (some this)) → lv 1 = some (jR x1) → lv 3 = some (jI x3) → lv 4 = some (jI s.1) → ey (mm_xt L xs) 2 20 17 lv [] s.2 r)) (fun x => (∀ lv : jL, lv 0 = some (jR (some this)) → lv 1 = some (jR x1) → lv 3 = some (jI x3) → ey (mm_xt L xs) 2 20 66 lv [] x r)) o) : ∀ lv : jL, lv 0 = some (jR (some this)) → lv 1 = some (jR x1) → lv 3 = some (jI x3) → lv 4 = some (jI x4) → ey (mm_xt L xs) 2 20 60 lv [] h r := by
  intro lv f0 f1 f3 f4
  unfold jd_20_b60 at e
  refine ey_iinc (cd_20 rfl) mt_20 rfl f4 ?_
  refine ey_goto (cd_20 rfl) rfl ?_
  cases e
  exact K (jup lv 4 (jI (x4 + 1))) f0 f1 (jup_pi (lv := lv) (j := 3) (v := jI (x4 + 1)) (z := x3) f3) rfl
set_option maxRecDepth 100000 in
theorem jk_20_s17 {L : Nat} {xs : Nat → Int32} {this : Nat} {x1 : Option Nat} {x3 : Int} {x4 : Int} {h : jH} {o : ((Int × jH) ⊕ jH)} {r : mm_R} (e : jd_20_s17 this x1 x3 x4 h = some o) (K : jsm (fun s => (∀ lv : jL, lv 0 = some (jR (some this)) → lv 1 = some (jR x1) → lv 3 = some (jI x3) → lv 4 = some (jI s.1) → ey (mm_xt L xs) 2 20 17 lv [] s.2 r)) (fun x => (∀ lv : jL, lv 0 = some (jR (some this)) → lv 1 = some (jR x1) → lv 3 = some (jI x3) → ey (mm_xt L xs) 2 20 66 lv [] x r)) o) : ∀ lv : jL, lv 0 = some (jR (some this)) → lv 1 = some (jR x1) → lv 3 = some (jI x3) → lv 4 = some (jI x4) → ey (mm_xt L xs) 2 20 17 lv [] h r := by
  intro lv f0 f1 f3 f4
  unfold jd_20_s17 at e
  refine ey_iload (cd_20 rfl) f4 ?_
  refine ey_iconst (cd_20 rfl) ?_
  by_cases q15 : 4 ≤ (jw x4)
  · rw [if_pos q15] at e
    refine ey_cge (cd_20 rfl) rfl rfl (show jw 4 = 4 from by decide) q15 ?_
    cases e
    exact K lv f0 f1 f3
  · rw [if_neg q15] at e
    refine ey_nge (cd_20 rfl) rfl rfl (show jw 4 = 4 from by decide) q15 ?_
    refine ey_iload_n (cd_20 rfl) f3 ?_
    refine ey_iload (cd_20 rfl) f4 ?_
    refine ey_cs (s0 := [jI x4, jI x3]) (s1 := []) (st' := [jI (jd_77 x3 x4)]) (cd_20 rfl) mt_20 mt_77 rfl (by decide) rfl rfl (jsml_s rfl) rfl (mm_Runs.up (d := 1) (by decide) (ok_77 )) ?_
    by_cases q16 : (jw (jd_77 x3 x4)) = 0
    · rw [if_pos q16] at e
      refine ey_zeq (cd_20 rfl) rfl rfl q16 ?_
      exact jk_20_b60 e K lv f0 f1 f3 f4
    · rw [if_neg q16] at e
      refine ey_yeq (cd_20 rfl) rfl rfl q16 ?_
      refine ey_aload_n (cd_20 rfl) f1 ?_
      refine ey_aload_n (cd_20 rfl) f0 ?_
      obtain ⟨r17, e18, e⟩ := jbind e
      refine ey_getf_r (cd_20 rfl) mt_20 rfl rfl rfl e18 ?_
      obtain ⟨a19, e20, e⟩ := jbind e
      refine ey_rs (s0 := [jR r17, jR x1]) (s1 := [jR (some a19), jR x1]) (by rw [e20]) ?_
      obtain ⟨r21, e22, e⟩ := jbind e
      refine ey_getf_r (cd_20 rfl) mt_20 rfl rfl rfl e22 ?_
      refine ey_iload (cd_20 rfl) f4 ?_
      obtain ⟨a23, e24, e⟩ := jbind e
      refine ey_rs (s0 := [jI x4, jR r21, jR x1]) (s1 := [jI x4, jR (some a23), jR x1]) (by rw [e24]) ?_
      obtain ⟨v25, e26, e⟩ := jbind e
      refine ey_iald (cd_20 rfl) e26 ?_
      refine ey_aload_n (cd_20 rfl) f0 ?_
      obtain ⟨r27, e28, e⟩ := jbind e
      refine ey_getf_r (cd_20 rfl) mt_20 rfl rfl rfl e28 ?_
      obtain ⟨a29, e30, e⟩ := jbind e
      refine ey_rs (s0 := [jR r27, jI v25, jR x1]) (s1 := [jR (some a29), jI v25, jR x1]) (by rw [e30]) ?_
      obtain ⟨r31, e32, e⟩ := jbind e
      refine ey_getf_r (cd_20 rfl) mt_20 rfl rfl rfl e32 ?_
      refine ey_iload (cd_20 rfl) f4 ?_
      obtain ⟨a33, e34, e⟩ := jbind e
      refine ey_rs (s0 := [jI x4, jR r31, jI v25, jR x1]) (s1 := [jI x4, jR (some a33), jI v25, jR x1]) (by rw [e34]) ?_
      obtain ⟨v35, e36, e⟩ := jbind e
      refine ey_iald (cd_20 rfl) e36 ?_
      refine ey_isub (cd_20 rfl) ?_
      refine ey_cs (s0 := [jI (v25 - v35), jR x1]) (s1 := [jR x1]) (st' := [jI (jd_12 (v25 - v35)), jR x1]) (cd_20 rfl) mt_20 mt_12 rfl (by decide) rfl rfl (jsml_s rfl) rfl (mm_Runs.up (d := 1) (by decide) (ok_12 )) ?_
      obtain ⟨a37, e38, e⟩ := jbind e
      refine ey_rs (s0 := [jI (jd_12 (v25 - v35)), jR x1]) (s1 := [jI (jd_12 (v25 - v35)), jR (some a37)]) (by rw [e38]) ?_
      obtain ⟨u39, e40, e⟩ := jbind e
      obtain ⟨h41, e42, e⟩ := jbind e
      refine ey_cv (s0 := [jI (jd_12 (v25 - v35)), jR (some a37)]) (s1 := []) (st' := []) (cd_20 rfl) mt_20 mt_9 rfl rfl rfl (jck_s e40) rfl (jsml_s rfl) rfl (ok_9 e42) ?_
      exact jk_20_b60 e K lv f0 f1 f3 f4
theorem jk_20_l17 {L : Nat} {xs : Nat → Int32} {this : Nat} {x1 : Option Nat} {x3 : Int} {x4 : Int} {h : jH} {x : jH} {r : mm_R} (e : jd_20_l17 this x1 x3 x4 h = some x) (K : (∀ lv : jL, lv 0 = some (jR (some this)) → lv 1 = some (jR x1) → lv 3 = some (jI x3) → ey (mm_xt L xs) 2 20 66 lv [] x r)) : ∀ lv : jL, lv 0 = some (jR (some this)) → lv 1 = some (jR x1) → lv 3 = some (jI x3) → lv 4 = some (jI x4) → ey (mm_xt L xs) 2 20 17 lv [] h r := by
  unfold jd_20_l17 at e
  exact jlp_ok2 (P := fun s => ∀ lv : jL, lv 0 = some (jR (some this)) → lv 1 = some (jR x1) → lv 3 = some (jI x3) → lv 4 = some (jI s.1) → ey (mm_xt L xs) 2 20 17 lv [] s.2 r) (Q := fun x => (∀ lv : jL, lv 0 = some (jR (some this)) → lv 1 = some (jR x1) → lv 3 = some (jI x3) → ey (mm_xt L xs) 2 20 66 lv [] x r)) (fun s q hq hk => jk_20_s17 hq hk) jfu _ x e K
set_option maxRecDepth 100000 in
theorem jk_20_b151 {L : Nat} {xs : Nat → Int32} {this : Nat} {x1 : Option Nat} {x3 : Int} {x4 : Int} {x5 : Int} {h : jH} {o : ((Int × Int × jH) ⊕ jH)} {r : mm_R} (e : jd_20_b151 this x1 x3 x4 x5 h = some o) (K : jsm (fun s => (∀ lv : jL, lv 0 = some (jR (some this)) → lv 1 = some (jR x1) → lv 3 = some (jI x3) → lv 4 = some (jI s.1) → lv 5 = some (jI s.2.1) → ey (mm_xt L xs) 2 20 72 lv [] s.2.2 r)) (fun x => (∀ lv : jL, ey (mm_xt L xs) 2 20 157 lv [] x r)) o) : ∀ lv : jL, lv 0 = some (jR (some this)) → lv 1 = some (jR x1) → lv 3 = some (jI x3) → lv 4 = some (jI x4) → lv 5 = some (jI x5) → ey (mm_xt L xs) 2 20 151 lv [] h r := by
  intro lv f0 f1 f3 f4 f5
  unfold jd_20_b151 at e
  refine ey_iinc (cd_20 rfl) mt_20 rfl f5 ?_
  refine ey_goto (cd_20 rfl) rfl ?_
  cases e
  exact K (jup lv 5 (jI (x5 + 1))) f0 f1 f3 (jup_pi (lv := lv) (j := 4) (v := jI (x5 + 1)) (z := x4) f4) rfl
set_option maxRecDepth 100000 in
theorem jk_20_b110 {L : Nat} {xs : Nat → Int32} {this : Nat} {x1 : Option Nat} {x3 : Int} {x4 : Int} {x5 : Int} {h : jH} {o : ((Int × Int × jH) ⊕ jH)} {r : mm_R} (e : jd_20_b110 this x1 x3 x4 x5 h = some o) (K : jsm (fun s => (∀ lv : jL, lv 0 = some (jR (some this)) → lv 1 = some (jR x1) → lv 3 = some (jI x3) → lv 4 = some (jI s.1) → lv 5 = some (jI s.2.1) → ey (mm_xt L xs) 2 20 72 lv [] s.2.2 r)) (fun x => (∀ lv : jL, ey (mm_xt L xs) 2 20 157 lv [] x r)) o) : ∀ lv : jL, lv 0 = some (jR (some this)) → lv 1 = some (jR x1) → lv 3 = some (jI x3) → lv 4 = some (jI x4) → lv 5 = some (jI x5) → ey (mm_xt L xs) 2 20 110 lv [] h r := by
  intro lv f0 f1 f3 f4 f5
  unfold jd_20_b110 at e
  refine ey_aload_n (cd_20 rfl) f0 ?_
  obtain ⟨r62, e63, e⟩ := jbind e
  refine ey_getf_r (cd_20 rfl) mt_20 rfl rfl rfl e63 ?_
  obtain ⟨a64, e65, e⟩ := jbind e
  refine ey_rs (s0 := [jR r62]) (s1 := [jR (some a64)]) (by rw [e65]) ?_
  obtain ⟨r66, e67, e⟩ := jbind e
  refine ey_getf_r (cd_20 rfl) mt_20 rfl rfl rfl e67 ?_
  refine ey_iload (cd_20 rfl) f5 ?_
  obtain ⟨a68, e69, e⟩ := jbind e
  refine ey_rs (s0 := [jI x5, jR r66]) (s1 := [jI x5, jR (some a68)]) (by rw [e69]) ?_
  obtain ⟨v70, e71, e⟩ := jbind e
  refine ey_iald (cd_20 rfl) e71 ?_
  refine ey_istore (cd_20 rfl) mt_20 rfl ?_
  refine ey_iload (cd_20 rfl) rfl ?_
  by_cases q72 : (jw v70) = 0
  · rw [if_pos q72] at e
    refine ey_yne (cd_20 rfl) rfl rfl (fun w => w q72) ?_
    refine ey_iinc (cd_20 rfl) mt_20 rfl f4 ?_
    refine ey_goto (cd_20 rfl) rfl ?_
    exact jk_20_b151 e K (jup (jup lv 6 (jI v70)) 4 (jI (x4 + 1))) f0 f1 (jup_pi (lv := (jup lv 6 (jI v70))) (j := 3) (v := jI (x4 + 1)) (z := x3) f3) rfl (jup_o rfl (jup_pi (lv := lv) (j := 5) (v := jI v70) (z := x5) f5))
  · rw [if_neg q72] at e
    refine ey_zne (cd_20 rfl) rfl rfl q72 ?_
    refine ey_aload_n (cd_20 rfl) f1 ?_
    refine ey_iload (cd_20 rfl) f4 ?_
    obtain ⟨a73, e74, e⟩ := jbind e
    refine ey_rs (s0 := [jI x4, jR x1]) (s1 := [jI x4, jR (some a73)]) (by rw [e74]) ?_
    obtain ⟨u75, e76, e⟩ := jbind e
    obtain ⟨h77, e78, e⟩ := jbind e
    refine ey_cv (s0 := [jI x4, jR (some a73)]) (s1 := []) (st' := []) (cd_20 rfl) mt_20 mt_9 rfl rfl rfl (jck_s e76) rfl (jsml_s rfl) rfl (ok_9 e78) ?_
    refine ey_aload_n (cd_20 rfl) f1 ?_
    refine ey_iload (cd_20 rfl) rfl ?_
    refine ey_cs (s0 := [jI v70, jR x1]) (s1 := [jR x1]) (st' := [jI (jd_12 v70), jR x1]) (cd_20 rfl) mt_20 mt_12 rfl (by decide) rfl rfl (jsml_s rfl) rfl (mm_Runs.up (d := 1) (by decide) (ok_12 )) ?_
    obtain ⟨a79, e80, e⟩ := jbind e
    refine ey_rs (s0 := [jI (jd_12 v70), jR x1]) (s1 := [jI (jd_12 v70), jR (some a79)]) (by rw [e80]) ?_
    obtain ⟨u81, e82, e⟩ := jbind e
    obtain ⟨h83, e84, e⟩ := jbind e
    refine ey_cv (s0 := [jI (jd_12 v70), jR (some a79)]) (s1 := []) (st' := []) (cd_20 rfl) mt_20 mt_9 rfl rfl rfl (jck_s e82) rfl (jsml_s rfl) rfl (ok_9 e84) ?_
    refine ey_iconst (cd_20 rfl) ?_
    refine ey_istore (cd_20 rfl) mt_20 rfl ?_
    exact jk_20_b151 e K (jup (jup lv 6 (jI v70)) 4 (jI 0)) f0 f1 (jup_pi (lv := (jup lv 6 (jI v70))) (j := 3) (v := jI 0) (z := x3) f3) rfl (jup_o rfl (jup_pi (lv := lv) (j := 5) (v := jI v70) (z := x5) f5))
set_option maxRecDepth 100000 in
theorem jk_20_s72 {L : Nat} {xs : Nat → Int32} {this : Nat} {x1 : Option Nat} {x3 : Int} {x4 : Int} {x5 : Int} {h : jH} {o : ((Int × Int × jH) ⊕ jH)} {r : mm_R} (e : jd_20_s72 this x1 x3 x4 x5 h = some o) (K : jsm (fun s => (∀ lv : jL, lv 0 = some (jR (some this)) → lv 1 = some (jR x1) → lv 3 = some (jI x3) → lv 4 = some (jI s.1) → lv 5 = some (jI s.2.1) → ey (mm_xt L xs) 2 20 72 lv [] s.2.2 r)) (fun x => (∀ lv : jL, ey (mm_xt L xs) 2 20 157 lv [] x r)) o) : ∀ lv : jL, lv 0 = some (jR (some this)) → lv 1 = some (jR x1) → lv 3 = some (jI x3) → lv 4 = some (jI x4) → lv 5 = some (jI x5) → ey (mm_xt L xs) 2 20 72 lv [] h r := by
  intro lv f0 f1 f3 f4 f5
  unfold jd_20_s72 at e
  refine ey_iload (cd_20 rfl) f5 ?_
  refine ey_bipush (cd_20 rfl) (by decide) ?_
  by_cases q45 : 96 ≤ (jw x5)
  · rw [if_pos q45] at e
    refine ey_cge (cd_20 rfl) rfl rfl (show jw 96 = 96 from by decide) q45 ?_
    cases e
    exact K lv 
  · rw [if_neg q45] at e
    refine ey_nge (cd_20 rfl) rfl rfl (show jw 96 = 96 from by decide) q45 ?_
    refine ey_iload_n (cd_20 rfl) f3 ?_
    by_cases q46 : (jw x3) = 0
    · rw [if_pos q46] at e
      refine ey_zeq (cd_20 rfl) rfl rfl q46 ?_
      cases e
      exact K lv 
    · rw [if_neg q46] at e
      refine ey_yeq (cd_20 rfl) rfl rfl q46 ?_
      refine ey_iload (cd_20 rfl) f5 ?_
      refine ey_bipush (cd_20 rfl) (by decide) ?_
      refine ey_irem (cd_20 rfl) (by decide) ?_
      by_cases q47 : (jw (jrem x5 16)) = 0
      · rw [if_pos q47] at e
        refine ey_yne (cd_20 rfl) rfl rfl (fun w => w q47) ?_
        refine ey_aload_n (cd_20 rfl) f1 ?_
        refine ey_aload_n (cd_20 rfl) f0 ?_
        obtain ⟨r48, e49, e⟩ := jbind e
        refine ey_getf_r (cd_20 rfl) mt_20 rfl rfl rfl e49 ?_
        refine ey_iload (cd_20 rfl) f5 ?_
        refine ey_bipush (cd_20 rfl) (by decide) ?_
        refine ey_idiv (cd_20 rfl) (by decide) ?_
        obtain ⟨a50, e51, e⟩ := jbind e
        refine ey_rs (s0 := [jI (jdiv x5 16), jR r48, jR x1]) (s1 := [jI (jdiv x5 16), jR (some a50), jR x1]) (by rw [e51]) ?_
        obtain ⟨u52, e53, e⟩ := jbind e
        obtain ⟨v54, e55, e⟩ := jbind e
        refine ey_cv (s0 := [jI (jdiv x5 16), jR (some a50), jR x1]) (s1 := [jR x1]) (st' := [jI v54, jR x1]) (cd_20 rfl) mt_20 mt_89 rfl rfl rfl (jck_s e53) rfl (jsml_s rfl) rfl (mm_Runs.up (d := 1) (by decide) (ok_89 e55)) ?_
        obtain ⟨a56, e57, e⟩ := jbind e
        refine ey_rs (s0 := [jI v54, jR x1]) (s1 := [jI v54, jR (some a56)]) (by rw [e57]) ?_
        obtain ⟨u58, e59, e⟩ := jbind e
        obtain ⟨h60, e61, e⟩ := jbind e
        refine ey_cv (s0 := [jI v54, jR (some a56)]) (s1 := []) (st' := []) (cd_20 rfl) mt_20 mt_9 rfl rfl rfl (jck_s e59) rfl (jsml_s rfl) rfl (ok_9 e61) ?_
        refine ey_iconst (cd_20 rfl) ?_
        refine ey_istore (cd_20 rfl) mt_20 rfl ?_
        exact jk_20_b110 e K (jup lv 4 (jI 0)) f0 f1 (jup_pi (lv := lv) (j := 3) (v := jI 0) (z := x3) f3) rfl f5
      · rw [if_neg q47] at e
        refine ey_zne (cd_20 rfl) rfl rfl q47 ?_
        exact jk_20_b110 e K lv f0 f1 f3 f4 f5
theorem jk_20_l72 {L : Nat} {xs : Nat → Int32} {this : Nat} {x1 : Option Nat} {x3 : Int} {x4 : Int} {x5 : Int} {h : jH} {x : jH} {r : mm_R} (e : jd_20_l72 this x1 x3 x4 x5 h = some x) (K : (∀ lv : jL, ey (mm_xt L xs) 2 20 157 lv [] x r)) : ∀ lv : jL, lv 0 = some (jR (some this)) → lv 1 = some (jR x1) → lv 3 = some (jI x3) → lv 4 = some (jI x4) → lv 5 = some (jI x5) → ey (mm_xt L xs) 2 20 72 lv [] h r := by
  unfold jd_20_l72 at e
  exact jlp_ok2 (P := fun s => ∀ lv : jL, lv 0 = some (jR (some this)) → lv 1 = some (jR x1) → lv 3 = some (jI x3) → lv 4 = some (jI s.1) → lv 5 = some (jI s.2.1) → ey (mm_xt L xs) 2 20 72 lv [] s.2.2 r) (Q := fun x => (∀ lv : jL, ey (mm_xt L xs) 2 20 157 lv [] x r)) (fun s q hq hk => jk_20_s72 hq hk) jfu _ x e K
set_option maxRecDepth 100000 in
theorem ok_20 {L : Nat} {xs : Nat → Int32} {this : Nat} {p0 : Option Nat} {p1 : Int} {h : jH} {o : jH} (e : jd_20 this p0 p1 h = some o) : mm_Runs (mm_xt L xs) 3 20 ([jR (some this), jR p0, jI p1].map jcv) (jaH h) (.inl (none, jaH o)) := by
  refine ey_run0 _ mt_20 (jsl_s rfl) ?_
  unfold jd_20 at e
  refine ey_aload_n (cd_20 rfl) rfl ?_
  obtain ⟨r1, e2, e⟩ := jbind e
  refine ey_getf_r (cd_20 rfl) mt_20 rfl rfl rfl e2 ?_
  refine ey_iload_n (cd_20 rfl) rfl ?_
  obtain ⟨a3, e4, e⟩ := jbind e
  refine ey_rs (s0 := [jI p1, jR r1]) (s1 := [jI p1, jR (some a3)]) (by rw [e4]) ?_
  obtain ⟨u5, e6, e⟩ := jbind e
  obtain ⟨v7, e8, e⟩ := jbind e
  refine ey_cv (s0 := [jI p1, jR (some a3)]) (s1 := []) (st' := [jI v7]) (cd_20 rfl) mt_20 mt_76 rfl rfl rfl (jck_s e6) rfl (jsml_s rfl) rfl (mm_Runs.up (d := 1) (by decide) (ok_76 e8)) ?_
  refine ey_istore_n (cd_20 rfl) mt_20 rfl ?_
  refine ey_aload_n (cd_20 rfl) rfl ?_
  refine ey_iload_n (cd_20 rfl) (jup_pi (lv := (jlf (jla 0 [jR (some this), jR p0, jI p1]))) (j := 2) (v := jI v7) (z := p1) rfl) ?_
  obtain ⟨a9, e10, e⟩ := jbind e
  refine ey_rs (s0 := [jI p1, jR p0]) (s1 := [jI p1, jR (some a9)]) (by rw [e10]) ?_
  obtain ⟨u11, e12, e⟩ := jbind e
  obtain ⟨h13, e14, e⟩ := jbind e
  refine ey_cv (s0 := [jI p1, jR (some a9)]) (s1 := []) (st' := []) (cd_20 rfl) mt_20 mt_9 rfl rfl rfl (jck_s e12) rfl (jsml_s rfl) rfl (ok_9 e14) ?_
  refine ey_iconst (cd_20 rfl) ?_
  refine ey_istore (cd_20 rfl) mt_20 rfl ?_
  obtain ⟨x43, e44, e⟩ := jbind e
  refine jk_20_l17 e44 ?_ (jup (jup (jlf (jla 0 [jR (some this), jR p0, jI p1])) 3 (jI v7)) 4 (jI 0)) rfl rfl (jup_pi (lv := (jup (jlf (jla 0 [jR (some this), jR p0, jI p1])) 3 (jI v7))) (j := 3) (v := jI 0) (z := v7) rfl) rfl
  intro lv g0 g1 g3
  refine ey_iconst (cd_20 rfl) ?_
  refine ey_istore (cd_20 rfl) mt_20 rfl ?_
  refine ey_iconst (cd_20 rfl) ?_
  refine ey_istore (cd_20 rfl) mt_20 rfl ?_
  obtain ⟨x85, e86, e⟩ := jbind e
  refine jk_20_l72 e86 ?_ (jup (jup lv 4 (jI 0)) 5 (jI 0)) g0 g1 (jup_o rfl (jup_pi (lv := lv) (j := 3) (v := jI 0) (z := v7) g3)) (jup_pi (lv := (jup lv 4 (jI 0))) (j := 4) (v := jI 0) (z := 0) rfl) rfl
  intro lv 
  cases e
  exact ey_retv (cd_20 rfl) mt_20 rfl
theorem cd_78 {pc : Nat} {i : Instr × Nat} (h : mm_lk mm_c78 pc = some i) : mm_cd 78 pc = some i := h
theorem mt_78 : mm_MT 78 = (5, 5, none, 2, 0, []) := rfl
set_option maxRecDepth 100000 in
theorem jk_78_b65 {L : Nat} {xs : Nat → Int32} {this : Nat} {x1 : Int} {x2 : Option Nat} {x3 : Int} {y0 : Int} {y1 : Int} {y2 : Option Nat} {h : jH} {o : ((Int × jH) ⊕ jH)} {r : mm_R} (e : jd_78_b65 this x1 x2 x3 y0 y1 y2 h = some o) (K : jsm (fun s => (∀ lv : jL, lv 0 = some (jR (some this)) → lv 1 = some (jI x1) → lv 2 = some (jR x2) → lv 3 = some (jI s.1) → ey (mm_xt L xs) 1 78 2 lv [] s.2 r)) (fun x => (∀ lv : jL, ey (mm_xt L xs) 1 78 72 lv [] x r)) o) : ∀ lv : jL, lv 0 = some (jR (some this)) → lv 1 = some (jI x1) → lv 2 = some (jR x2) → lv 3 = some (jI x3) → ey (mm_xt L xs) 1 78 65 lv [jI y0, jI y1, jR y2] h r := by
  intro lv f0 f1 f2 f3
  unfold jd_78_b65 at e
  obtain ⟨a9, e10, e⟩ := jbind e
  refine ey_rs (s0 := [jI y0, jI y1, jR y2]) (s1 := [jI y0, jI y1, jR (some a9)]) (by rw [e10]) ?_
  obtain ⟨h11, e12, e⟩ := jbind e
  refine ey_iast (cd_78 rfl) e12 ?_
  refine ey_iinc (cd_78 rfl) mt_78 rfl f3 ?_
  refine ey_goto (cd_78 rfl) rfl ?_
  cases e
  exact K (jup lv 3 (jI (x3 + 1))) f0 f1 (jup_pr (lv := lv) (j := 2) (v := jI (x3 + 1)) (z := x2) f2) rfl
set_option maxRecDepth 100000 in
theorem jk_78_b29 {L : Nat} {xs : Nat → Int32} {this : Nat} {x1 : Int} {x2 : Option Nat} {x3 : Int} {y0 : Int} {h : jH} {o : ((Int × jH) ⊕ jH)} {r : mm_R} (e : jd_78_b29 this x1 x2 x3 y0 h = some o) (K : jsm (fun s => (∀ lv : jL, lv 0 = some (jR (some this)) → lv 1 = some (jI x1) → lv 2 = some (jR x2) → lv 3 = some (jI s.1) → ey (mm_xt L xs) 1 78 2 lv [] s.2 r)) (fun x => (∀ lv : jL, ey (mm_xt L xs) 1 78 72 lv [] x r)) o) : ∀ lv : jL, lv 0 = some (jR (some this)) → lv 1 = some (jI x1) → lv 2 = some (jR x2) → lv 3 = some (jI x3) → ey (mm_xt L xs) 1 78 29 lv [jI y0] h r := by
  intro lv f0 f1 f2 f3
  unfold jd_78_b29 at e
  refine ey_istore (cd_78 rfl) mt_78 rfl ?_
  refine ey_aload_n (cd_78 rfl) f0 ?_
  obtain ⟨r5, e6, e⟩ := jbind e
  refine ey_getf_r (cd_78 rfl) mt_78 rfl rfl rfl e6 ?_
  refine ey_iload_n (cd_78 rfl) (jup_pi (lv := lv) (j := 3) (v := jI y0) (z := x3) f3) ?_
  refine ey_iload_n (cd_78 rfl) f1 ?_
  refine ey_iload_n (cd_78 rfl) (jup_pi (lv := lv) (j := 3) (v := jI y0) (z := x3) f3) ?_
  refine ey_cs (s0 := [jI x3, jI x1, jI x3, jR r5]) (s1 := [jI x3, jR r5]) (st' := [jI (jd_77 x1 x3), jI x3, jR r5]) (cd_78 rfl) mt_78 mt_77 rfl (by decide) rfl rfl (jsml_s rfl) rfl (ok_77 ) ?_
  by_cases q7 : (jw (jd_77 x1 x3)) = 0
  · rw [if_pos q7] at e
    refine ey_zeq (cd_78 rfl) rfl rfl q7 ?_
    refine ey_iload (cd_78 rfl) rfl ?_
    by_cases q8 : (jw y0) = 0
    · rw [if_pos q8] at e
      refine ey_zeq (cd_78 rfl) rfl rfl q8 ?_
      refine ey_iconst (cd_78 rfl) ?_
      exact jk_78_b65 e K (jup lv 4 (jI y0)) f0 f1 f2 (jup_pi (lv := lv) (j := 3) (v := jI y0) (z := x3) f3)
    · rw [if_neg q8] at e
      refine ey_yeq (cd_78 rfl) rfl rfl q8 ?_
      refine ey_aload_n (cd_78 rfl) f0 ?_
      obtain ⟨r13, e14, e⟩ := jbind e
      refine ey_getf_r (cd_78 rfl) mt_78 rfl rfl rfl e14 ?_
      refine ey_iload_n (cd_78 rfl) (jup_pi (lv := lv) (j := 3) (v := jI y0) (z := x3) f3) ?_
      obtain ⟨a15, e16, e⟩ := jbind e
      refine ey_rs (s0 := [jI x3, jR r13, jI x3, jR r5]) (s1 := [jI x3, jR (some a15), jI x3, jR r5]) (by rw [e16]) ?_
      obtain ⟨v17, e18, e⟩ := jbind e
      refine ey_iald (cd_78 rfl) e18 ?_
      refine ey_goto (cd_78 rfl) rfl ?_
      exact jk_78_b65 e K (jup lv 4 (jI y0)) f0 f1 f2 (jup_pi (lv := lv) (j := 3) (v := jI y0) (z := x3) f3)
  · rw [if_neg q7] at e
    refine ey_yeq (cd_78 rfl) rfl rfl q7 ?_
    refine ey_aload_n (cd_78 rfl) f2 ?_
    refine ey_iload_n (cd_78 rfl) (jup_pi (lv := lv) (j := 3) (v := jI y0) (z := x3) f3) ?_
    obtain ⟨a19, e20, e⟩ := jbind e
    refine ey_rs (s0 := [jI x3, jR x2, jI x3, jR r5]) (s1 := [jI x3, jR (some a19), jI x3, jR r5]) (by rw [e20]) ?_
    obtain ⟨v21, e22, e⟩ := jbind e
    refine ey_iald (cd_78 rfl) e22 ?_
    refine ey_goto (cd_78 rfl) rfl ?_
    exact jk_78_b65 e K (jup lv 4 (jI y0)) f0 f1 f2 (jup_pi (lv := lv) (j := 3) (v := jI y0) (z := x3) f3)
set_option maxRecDepth 100000 in
theorem jk_78_s2 {L : Nat} {xs : Nat → Int32} {this : Nat} {x1 : Int} {x2 : Option Nat} {x3 : Int} {h : jH} {o : ((Int × jH) ⊕ jH)} {r : mm_R} (e : jd_78_s2 this x1 x2 x3 h = some o) (K : jsm (fun s => (∀ lv : jL, lv 0 = some (jR (some this)) → lv 1 = some (jI x1) → lv 2 = some (jR x2) → lv 3 = some (jI s.1) → ey (mm_xt L xs) 1 78 2 lv [] s.2 r)) (fun x => (∀ lv : jL, ey (mm_xt L xs) 1 78 72 lv [] x r)) o) : ∀ lv : jL, lv 0 = some (jR (some this)) → lv 1 = some (jI x1) → lv 2 = some (jR x2) → lv 3 = some (jI x3) → ey (mm_xt L xs) 1 78 2 lv [] h r := by
  intro lv f0 f1 f2 f3
  unfold jd_78_s2 at e
  refine ey_iload_n (cd_78 rfl) f3 ?_
  refine ey_iconst (cd_78 rfl) ?_
  by_cases q1 : 4 ≤ (jw x3)
  · rw [if_pos q1] at e
    refine ey_cge (cd_78 rfl) rfl rfl (show jw 4 = 4 from by decide) q1 ?_
    cases e
    exact K lv 
  · rw [if_neg q1] at e
    refine ey_nge (cd_78 rfl) rfl rfl (show jw 4 = 4 from by decide) q1 ?_
    refine ey_iload_n (cd_78 rfl) f1 ?_
    by_cases q2 : (jw x1) = 0
    · rw [if_pos q2] at e
      refine ey_yne (cd_78 rfl) rfl rfl (fun w => w q2) ?_
      refine ey_aload_n (cd_78 rfl) f0 ?_
      obtain ⟨v3, e4, e⟩ := jbind e
      refine ey_getf_i (cd_78 rfl) mt_78 rfl rfl rfl e4 ?_
      refine ey_iconst (cd_78 rfl) ?_
      have K23 : ∀ lv : jL, lv 0 = some (jR (some this)) → lv 1 = some (jI x1) → lv 2 = some (jR x2) → lv 3 = some (jI x3) → ey (mm_xt L xs) 1 78 29 lv [jI (if (jw v3) = 1 then (if 2 ≤ (jw x3) then 0 else 1) else 0)] h r := by
        intro lv g0 g1 g2 g3
        exact jk_78_b29 e K lv g0 g1 g2 g3
      by_cases q24 : (jw v3) = 1
      · refine ey_nne (cd_78 rfl) rfl rfl (show jw 1 = 1 from by decide) (fun w => w q24) ?_
        refine ey_iload_n (cd_78 rfl) f3 ?_
        refine ey_iconst (cd_78 rfl) ?_
        by_cases q25 : 2 ≤ (jw x3)
        · refine ey_cge (cd_78 rfl) rfl rfl (show jw 2 = 2 from by decide) q25 ?_
          refine ey_iconst (cd_78 rfl) ?_
          exact ey_rs (s0 := [jI 0]) (s1 := [jI (if (jw v3) = 1 then (if 2 ≤ (jw x3) then 0 else 1) else 0)]) (by rw [show ((if (jw v3) = 1 then (if 2 ≤ (jw x3) then 0 else 1) else 0) : Int) = 0 from ((if_pos q24).trans (if_pos q25))]) (K23 lv f0 f1 f2 f3)
        · refine ey_nge (cd_78 rfl) rfl rfl (show jw 2 = 2 from by decide) q25 ?_
          refine ey_iconst (cd_78 rfl) ?_
          refine ey_goto (cd_78 rfl) rfl ?_
          exact ey_rs (s0 := [jI 1]) (s1 := [jI (if (jw v3) = 1 then (if 2 ≤ (jw x3) then 0 else 1) else 0)]) (by rw [show ((if (jw v3) = 1 then (if 2 ≤ (jw x3) then 0 else 1) else 0) : Int) = 1 from ((if_pos q24).trans (if_neg q25))]) (K23 lv f0 f1 f2 f3)
      · refine ey_cne (cd_78 rfl) rfl rfl (show jw 1 = 1 from by decide) q24 ?_
        refine ey_iconst (cd_78 rfl) ?_
        exact ey_rs (s0 := [jI 0]) (s1 := [jI (if (jw v3) = 1 then (if 2 ≤ (jw x3) then 0 else 1) else 0)]) (by rw [show ((if (jw v3) = 1 then (if 2 ≤ (jw x3) then 0 else 1) else 0) : Int) = 0 from (if_neg q24)]) (K23 lv f0 f1 f2 f3)
    · rw [if_neg q2] at e
      refine ey_zne (cd_78 rfl) rfl rfl q2 ?_
      refine ey_iconst (cd_78 rfl) ?_
      exact jk_78_b29 e K lv f0 f1 f2 f3
theorem jk_78_l2 {L : Nat} {xs : Nat → Int32} {this : Nat} {x1 : Int} {x2 : Option Nat} {x3 : Int} {h : jH} {x : jH} {r : mm_R} (e : jd_78_l2 this x1 x2 x3 h = some x) (K : (∀ lv : jL, ey (mm_xt L xs) 1 78 72 lv [] x r)) : ∀ lv : jL, lv 0 = some (jR (some this)) → lv 1 = some (jI x1) → lv 2 = some (jR x2) → lv 3 = some (jI x3) → ey (mm_xt L xs) 1 78 2 lv [] h r := by
  unfold jd_78_l2 at e
  exact jlp_ok2 (P := fun s => ∀ lv : jL, lv 0 = some (jR (some this)) → lv 1 = some (jI x1) → lv 2 = some (jR x2) → lv 3 = some (jI s.1) → ey (mm_xt L xs) 1 78 2 lv [] s.2 r) (Q := fun x => (∀ lv : jL, ey (mm_xt L xs) 1 78 72 lv [] x r)) (fun s q hq hk => jk_78_s2 hq hk) jfu _ x e K
set_option maxRecDepth 100000 in
theorem ok_78 {L : Nat} {xs : Nat → Int32} {this : Nat} {p0 : Int} {p1 : Option Nat} {h : jH} {o : jH} (e : jd_78 this p0 p1 h = some o) : mm_Runs (mm_xt L xs) 2 78 ([jR (some this), jI p0, jR p1].map jcv) (jaH h) (.inl (none, jaH o)) := by
  refine ey_run0 _ mt_78 (jsl_s rfl) ?_
  unfold jd_78 at e
  refine ey_iconst (cd_78 rfl) ?_
  refine ey_istore_n (cd_78 rfl) mt_78 rfl ?_
  obtain ⟨x26, e27, e⟩ := jbind e
  refine jk_78_l2 e27 ?_ (jup (jlf (jla 0 [jR (some this), jI p0, jR p1])) 3 (jI 0)) rfl rfl (jup_pr (lv := (jlf (jla 0 [jR (some this), jI p0, jR p1]))) (j := 2) (v := jI 0) (z := p1) rfl) rfl
  intro lv 
  cases e
  exact ey_retv (cd_78 rfl) mt_78 rfl
theorem cd_81 {pc : Nat} {i : Instr × Nat} (h : mm_lk mm_c81 pc = some i) : mm_cd 81 pc = some i := h
theorem mt_81 : mm_MT 81 = (5, 7, some .int, 3, 0, []) := rfl
set_option maxRecDepth 100000 in
theorem jk_81_b75 {L : Nat} {xs : Nat → Int32} {this : Nat} {x1 : Int} {x2 : Int} {x3 : Int} {x4 : Int} {x5 : Int} {x6 : Int} {h : jH} {o : ((Int × Int × Int) ⊕ (Int × Int))} {r : mm_R} (e : jd_81_b75 this x1 x2 x3 x4 x5 x6 h = some o) (K : jsm (fun s => (∀ lv : jL, lv 0 = some (jR (some this)) → lv 1 = some (jI x1) → lv 2 = some (jI x2) → lv 3 = some (jI x3) → lv 4 = some (jI s.1) → lv 5 = some (jI s.2.1) → lv 6 = some (jI s.2.2) → ey (mm_xt L xs) 0 81 9 lv [] h r)) (fun x => (∀ lv : jL, lv 4 = some (jI x.1) → lv 5 = some (jI x.2) → ey (mm_xt L xs) 0 81 81 lv [] h r)) o) : ∀ lv : jL, lv 0 = some (jR (some this)) → lv 1 = some (jI x1) → lv 2 = some (jI x2) → lv 3 = some (jI x3) → lv 4 = some (jI x4) → lv 5 = some (jI x5) → lv 6 = some (jI x6) → ey (mm_xt L xs) 0 81 75 lv [] h r := by
  intro lv f0 f1 f2 f3 f4 f5 f6
  unfold jd_81_b75 at e
  refine ey_iinc (cd_81 rfl) mt_81 rfl f6 ?_
  refine ey_goto (cd_81 rfl) rfl ?_
  cases e
  exact K (jup lv 6 (jI (x6 + 1))) f0 f1 f2 f3 f4 (jup_pi (lv := lv) (j := 5) (v := jI (x6 + 1)) (z := x5) f5) rfl
set_option maxRecDepth 100000 in
theorem jk_81_b44 {L : Nat} {xs : Nat → Int32} {this : Nat} {x1 : Int} {x2 : Int} {x3 : Int} {x4 : Int} {x5 : Int} {x6 : Int} {h : jH} {o : ((Int × Int × Int) ⊕ (Int × Int))} {r : mm_R} (e : jd_81_b44 this x1 x2 x3 x4 x5 x6 h = some o) (K : jsm (fun s => (∀ lv : jL, lv 0 = some (jR (some this)) → lv 1 = some (jI x1) → lv 2 = some (jI x2) → lv 3 = some (jI x3) → lv 4 = some (jI s.1) → lv 5 = some (jI s.2.1) → lv 6 = some (jI s.2.2) → ey (mm_xt L xs) 0 81 9 lv [] h r)) (fun x => (∀ lv : jL, lv 4 = some (jI x.1) → lv 5 = some (jI x.2) → ey (mm_xt L xs) 0 81 81 lv [] h r)) o) : ∀ lv : jL, lv 0 = some (jR (some this)) → lv 1 = some (jI x1) → lv 2 = some (jI x2) → lv 3 = some (jI x3) → lv 4 = some (jI x4) → lv 5 = some (jI x5) → lv 6 = some (jI x6) → ey (mm_xt L xs) 0 81 44 lv [] h r := by
  intro lv f0 f1 f2 f3 f4 f5 f6
  unfold jd_81_b44 at e
  refine ey_aload_n (cd_81 rfl) f0 ?_
  obtain ⟨v5, e6, e⟩ := jbind e
  refine ey_getf_i (cd_81 rfl) mt_81 rfl rfl rfl e6 ?_
  by_cases q7 : (jw v5) ≤ 0
  · rw [if_pos q7] at e
    refine ey_zle (cd_81 rfl) rfl rfl q7 ?_
    exact jk_81_b75 e K lv f0 f1 f2 f3 f4 f5 f6
  · rw [if_neg q7] at e
    refine ey_yle (cd_81 rfl) rfl rfl q7 ?_
    refine ey_iload (cd_81 rfl) f4 ?_
    refine ey_aload_n (cd_81 rfl) f0 ?_
    obtain ⟨r8, e9, e⟩ := jbind e
    refine ey_getf_r (cd_81 rfl) mt_81 rfl rfl rfl e9 ?_
    obtain ⟨a10, e11, e⟩ := jbind e
    refine ey_rs (s0 := [jR r8, jI x4]) (s1 := [jR (some a10), jI x4]) (by rw [e11]) ?_
    obtain ⟨r12, e13, e⟩ := jbind e
    refine ey_getf_r (cd_81 rfl) mt_81 rfl rfl rfl e13 ?_
    refine ey_iload_n (cd_81 rfl) f3 ?_
    refine ey_iload (cd_81 rfl) f6 ?_
    refine ey_iload_n (cd_81 rfl) f2 ?_
    refine ey_imul (cd_81 rfl) ?_
    refine ey_iadd (cd_81 rfl) ?_
    refine ey_iconst (cd_81 rfl) ?_
    refine ey_isub (cd_81 rfl) ?_
    obtain ⟨a14, e15, e⟩ := jbind e
    refine ey_rs (s0 := [jI ((x3 + (x6 * x2)) - 1), jR r12, jI x4]) (s1 := [jI ((x3 + (x6 * x2)) - 1), jR (some a14), jI x4]) (by rw [e15]) ?_
    obtain ⟨v16, e17, e⟩ := jbind e
    refine ey_iald (cd_81 rfl) e17 ?_
    refine ey_iadd (cd_81 rfl) ?_
    refine ey_istore (cd_81 rfl) mt_81 rfl ?_
    refine ey_iinc (cd_81 rfl) mt_81 rfl f5 ?_
    exact jk_81_b75 e K (jup (jup lv 4 (jI (x4 + v16))) 5 (jI (x5 + 1))) f0 f1 f2 (jup_o rfl (jup_pi (lv := lv) (j := 3) (v := jI (x4 + v16)) (z := x3) f3)) (jup_pi (lv := (jup lv 4 (jI (x4 + v16)))) (j := 4) (v := jI (x5 + 1)) (z := (x4 + v16)) rfl) rfl f6
set_option maxRecDepth 100000 in
theorem jk_81_s9 {L : Nat} {xs : Nat → Int32} {this : Nat} {x1 : Int} {x2 : Int} {x3 : Int} {x4 : Int} {x5 : Int} {x6 : Int} {h : jH} {o : ((Int × Int × Int) ⊕ (Int × Int))} {r : mm_R} (e : jd_81_s9 this x1 x2 x3 x4 x5 x6 h = some o) (K : jsm (fun s => (∀ lv : jL, lv 0 = some (jR (some this)) → lv 1 = some (jI x1) → lv 2 = some (jI x2) → lv 3 = some (jI x3) → lv 4 = some (jI s.1) → lv 5 = some (jI s.2.1) → lv 6 = some (jI s.2.2) → ey (mm_xt L xs) 0 81 9 lv [] h r)) (fun x => (∀ lv : jL, lv 4 = some (jI x.1) → lv 5 = some (jI x.2) → ey (mm_xt L xs) 0 81 81 lv [] h r)) o) : ∀ lv : jL, lv 0 = some (jR (some this)) → lv 1 = some (jI x1) → lv 2 = some (jI x2) → lv 3 = some (jI x3) → lv 4 = some (jI x4) → lv 5 = some (jI x5) → lv 6 = some (jI x6) → ey (mm_xt L xs) 0 81 9 lv [] h r := by
  intro lv f0 f1 f2 f3 f4 f5 f6
  unfold jd_81_s9 at e
  refine ey_iload (cd_81 rfl) f6 ?_
  refine ey_iload_n (cd_81 rfl) f1 ?_
  by_cases q1 : (jw x1) ≤ (jw x6)
  · rw [if_pos q1] at e
    refine ey_cge (cd_81 rfl) rfl rfl rfl q1 ?_
    cases e
    exact K lv f4 f5
  · rw [if_neg q1] at e
    refine ey_nge (cd_81 rfl) rfl rfl rfl q1 ?_
    refine ey_aload_n (cd_81 rfl) f0 ?_
    obtain ⟨v2, e3, e⟩ := jbind e
    refine ey_getf_i (cd_81 rfl) mt_81 rfl rfl rfl e3 ?_
    by_cases q4 : (jw v2) ≤ 0
    · rw [if_pos q4] at e
      refine ey_zle (cd_81 rfl) rfl rfl q4 ?_
      exact jk_81_b44 e K lv f0 f1 f2 f3 f4 f5 f6
    · rw [if_neg q4] at e
      refine ey_yle (cd_81 rfl) rfl rfl q4 ?_
      refine ey_iload (cd_81 rfl) f4 ?_
      refine ey_aload_n (cd_81 rfl) f0 ?_
      obtain ⟨r18, e19, e⟩ := jbind e
      refine ey_getf_r (cd_81 rfl) mt_81 rfl rfl rfl e19 ?_
      obtain ⟨a20, e21, e⟩ := jbind e
      refine ey_rs (s0 := [jR r18, jI x4]) (s1 := [jR (some a20), jI x4]) (by rw [e21]) ?_
      obtain ⟨r22, e23, e⟩ := jbind e
      refine ey_getf_r (cd_81 rfl) mt_81 rfl rfl rfl e23 ?_
      refine ey_iload_n (cd_81 rfl) f3 ?_
      refine ey_iload_n (cd_81 rfl) f2 ?_
      refine ey_isub (cd_81 rfl) ?_
      refine ey_iload (cd_81 rfl) f6 ?_
      refine ey_iadd (cd_81 rfl) ?_
      obtain ⟨a24, e25, e⟩ := jbind e
      refine ey_rs (s0 := [jI ((x3 - x2) + x6), jR r22, jI x4]) (s1 := [jI ((x3 - x2) + x6), jR (some a24), jI x4]) (by rw [e25]) ?_
      obtain ⟨v26, e27, e⟩ := jbind e
      refine ey_iald (cd_81 rfl) e27 ?_
      refine ey_iadd (cd_81 rfl) ?_
      refine ey_istore (cd_81 rfl) mt_81 rfl ?_
      refine ey_iinc (cd_81 rfl) mt_81 rfl f5 ?_
      exact jk_81_b44 e K (jup (jup lv 4 (jI (x4 + v26))) 5 (jI (x5 + 1))) f0 f1 f2 (jup_o rfl (jup_pi (lv := lv) (j := 3) (v := jI (x4 + v26)) (z := x3) f3)) (jup_pi (lv := (jup lv 4 (jI (x4 + v26)))) (j := 4) (v := jI (x5 + 1)) (z := (x4 + v26)) rfl) rfl f6
theorem jk_81_l9 {L : Nat} {xs : Nat → Int32} {this : Nat} {x1 : Int} {x2 : Int} {x3 : Int} {x4 : Int} {x5 : Int} {x6 : Int} {h : jH} {x : (Int × Int)} {r : mm_R} (e : jd_81_l9 this x1 x2 x3 x4 x5 x6 h = some x) (K : (∀ lv : jL, lv 4 = some (jI x.1) → lv 5 = some (jI x.2) → ey (mm_xt L xs) 0 81 81 lv [] h r)) : ∀ lv : jL, lv 0 = some (jR (some this)) → lv 1 = some (jI x1) → lv 2 = some (jI x2) → lv 3 = some (jI x3) → lv 4 = some (jI x4) → lv 5 = some (jI x5) → lv 6 = some (jI x6) → ey (mm_xt L xs) 0 81 9 lv [] h r := by
  unfold jd_81_l9 at e
  exact jlp_ok2 (P := fun s => ∀ lv : jL, lv 0 = some (jR (some this)) → lv 1 = some (jI x1) → lv 2 = some (jI x2) → lv 3 = some (jI x3) → lv 4 = some (jI s.1) → lv 5 = some (jI s.2.1) → lv 6 = some (jI s.2.2) → ey (mm_xt L xs) 0 81 9 lv [] h r) (Q := fun x => (∀ lv : jL, lv 4 = some (jI x.1) → lv 5 = some (jI x.2) → ey (mm_xt L xs) 0 81 81 lv [] h r)) (fun s q hq hk => jk_81_s9 hq hk) jfu _ x e K
set_option maxRecDepth 100000 in
theorem jk_81_b102 {L : Nat} {xs : Nat → Int32} {this : Nat} {y0 : Int} {h : jH} {o : Int} (e : jd_81_b102 this y0 h = some o) : ∀ lv : jL, ey (mm_xt L xs) 0 81 102 lv [jI y0] h (.inl (some (jcv (jI o)), jaH h)) := by
  intro lv 
  unfold jd_81_b102 at e
  cases e
  exact ey_reti (cd_81 rfl) mt_81 rfl
set_option maxRecDepth 100000 in
theorem ok_81 {L : Nat} {xs : Nat → Int32} {this : Nat} {p0 : Int} {p1 : Int} {p2 : Int} {h : jH} {o : Int} (e : jd_81 this p0 p1 p2 h = some o) : mm_Runs (mm_xt L xs) 1 81 ([jR (some this), jI p0, jI p1, jI p2].map jcv) (jaH h) (.inl (some (jcv (jI o)), jaH h)) := by
  refine ey_run0 _ mt_81 (jsl_s rfl) ?_
  unfold jd_81 at e
  refine ey_iconst (cd_81 rfl) ?_
  refine ey_istore (cd_81 rfl) mt_81 rfl ?_
  refine ey_iconst (cd_81 rfl) ?_
  refine ey_istore (cd_81 rfl) mt_81 rfl ?_
  refine ey_iconst (cd_81 rfl) ?_
  refine ey_istore (cd_81 rfl) mt_81 rfl ?_
  obtain ⟨x28, e29, e⟩ := jbind e
  refine jk_81_l9 e29 ?_ (jup (jup (jup (jlf (jla 0 [jR (some this), jI p0, jI p1, jI p2])) 4 (jI 0)) 5 (jI 0)) 6 (jI 0)) rfl rfl rfl (jup_o rfl (jup_o rfl (jup_pi (lv := (jlf (jla 0 [jR (some this), jI p0, jI p1, jI p2]))) (j := 3) (v := jI 0) (z := p2) rfl))) (jup_o rfl (jup_pi (lv := (jup (jlf (jla 0 [jR (some this), jI p0, jI p1, jI p2])) 4 (jI 0))) (j := 4) (v := jI 0) (z := 0) rfl)) (jup_pi (lv := (jup (jup (jlf (jla 0 [jR (some this), jI p0, jI p1, jI p2])) 4 (jI 0)) 5 (jI 0))) (j := 5) (v := jI 0) (z := 0) rfl) rfl
  intro lv g4 g5
  refine ey_iload (cd_81 rfl) g5 ?_
  by_cases q30 : (jw x28.2) = 0
  · rw [if_pos q30] at e
    refine ey_yne (cd_81 rfl) rfl rfl (fun w => w q30) ?_
    refine ey_sipush (cd_81 rfl) (by decide) ?_
    refine ey_goto (cd_81 rfl) rfl ?_
    exact jk_81_b102 e lv 
  · rw [if_neg q30] at e
    refine ey_zne (cd_81 rfl) rfl rfl q30 ?_
    refine ey_iload (cd_81 rfl) g4 ?_
    refine ey_iload (cd_81 rfl) g5 ?_
    refine ey_iconst (cd_81 rfl) ?_
    refine ey_idiv (cd_81 rfl) (by decide) ?_
    refine ey_iadd (cd_81 rfl) ?_
    refine ey_iload (cd_81 rfl) g5 ?_
    obtain ⟨u31, e32, e⟩ := jbind e
    refine ey_idiv (cd_81 rfl) (jnz_s e32) ?_
    exact jk_81_b102 e lv 
theorem cd_96 {pc : Nat} {i : Instr × Nat} (h : mm_lk mm_c96 pc = some i) : mm_cd 96 pc = some i := h
theorem mt_96 : mm_MT 96 = (6, 2, some .int, 1, 0, []) := rfl
set_option maxRecDepth 100000 in
theorem jk_96_b17 {L : Nat} {xs : Nat → Int32} {this : Nat} {y0 : Int} {h : jH} {o : Int} (e : jd_96_b17 this y0 h = some o) : ∀ lv : jL, ey (mm_xt L xs) 0 96 17 lv [jI y0] h (.inl (some (jcv (jI o)), jaH h)) := by
  intro lv 
  unfold jd_96_b17 at e
  cases e
  exact ey_reti (cd_96 rfl) mt_96 rfl
set_option maxRecDepth 100000 in
theorem ok_96 {L : Nat} {xs : Nat → Int32} {this : Nat} {p0 : Int} {h : jH} {o : Int} (e : jd_96 this p0 h = some o) : mm_Runs (mm_xt L xs) 1 96 ([jR (some this), jI p0].map jcv) (jaH h) (.inl (some (jcv (jI o)), jaH h)) := by
  refine ey_run0 _ mt_96 (jsl_s rfl) ?_
  unfold jd_96 at e
  refine ey_iload_n (cd_96 rfl) rfl ?_
  by_cases q1 : (jw p0) = 0
  · rw [if_pos q1] at e
    refine ey_yne (cd_96 rfl) rfl rfl (fun w => w q1) ?_
    refine ey_aload_n (cd_96 rfl) rfl ?_
    obtain ⟨v2, e3, e⟩ := jbind e
    refine ey_getf_i (cd_96 rfl) mt_96 rfl rfl rfl e3 ?_
    refine ey_goto (cd_96 rfl) rfl ?_
    exact jk_96_b17 e (jlf (jla 0 [jR (some this), jI p0])) 
  · rw [if_neg q1] at e
    refine ey_zne (cd_96 rfl) rfl rfl q1 ?_
    refine ey_aload_n (cd_96 rfl) rfl ?_
    obtain ⟨v4, e5, e⟩ := jbind e
    refine ey_getf_i (cd_96 rfl) mt_96 rfl rfl rfl e5 ?_
    refine ey_iconst (cd_96 rfl) ?_
    refine ey_idiv (cd_96 rfl) (by decide) ?_
    exact jk_96_b17 e (jlf (jla 0 [jR (some this), jI p0])) 
theorem cd_98 {pc : Nat} {i : Instr × Nat} (h : mm_lk mm_c98 pc = some i) : mm_cd 98 pc = some i := h
theorem mt_98 : mm_MT 98 = (6, 3, some .int, 1, 0, []) := rfl
set_option maxRecDepth 100000 in
theorem jk_98_b32 {L : Nat} {xs : Nat → Int32} {this : Nat} {y0 : Int} {h : jH} {o : Int} (e : jd_98_b32 this y0 h = some o) : ∀ lv : jL, ey (mm_xt L xs) 0 98 32 lv [jI y0] h (.inl (some (jcv (jI o)), jaH h)) := by
  intro lv 
  unfold jd_98_b32 at e
  cases e
  exact ey_reti (cd_98 rfl) mt_98 rfl
set_option maxRecDepth 100000 in
theorem ok_98 {L : Nat} {xs : Nat → Int32} {this : Nat} {p0 : Int} {h : jH} {o : Int} (e : jd_98 this p0 h = some o) : mm_Runs (mm_xt L xs) 1 98 ([jR (some this), jI p0].map jcv) (jaH h) (.inl (some (jcv (jI o)), jaH h)) := by
  refine ey_run0 _ mt_98 (jsl_s rfl) ?_
  unfold jd_98 at e
  refine ey_aload_n (cd_98 rfl) rfl ?_
  obtain ⟨v1, e2, e⟩ := jbind e
  refine ey_getf_i (cd_98 rfl) mt_98 rfl rfl rfl e2 ?_
  refine ey_aload_n (cd_98 rfl) rfl ?_
  obtain ⟨v3, e4, e⟩ := jbind e
  refine ey_getf_i (cd_98 rfl) mt_98 rfl rfl rfl e4 ?_
  refine ey_imul (cd_98 rfl) ?_
  refine ey_istore_n (cd_98 rfl) mt_98 rfl ?_
  refine ey_iload_n (cd_98 rfl) (jup_pi (lv := (jlf (jla 0 [jR (some this), jI p0]))) (j := 1) (v := jI (v1 * v3)) (z := p0) rfl) ?_
  have K5 : ∀ lv : jL, ey (mm_xt L xs) 0 98 32 lv [jI (if (jw p0) = 0 then 0 else (if (jw p0) = 1 then (v1 * v3) else ((v1 * v3) + (jdiv (v1 * v3) 4))))] h (.inl (some (jcv (jI o)), jaH h)) := by
    intro lv 
    exact jk_98_b32 e lv 
  by_cases q6 : (jw p0) = 0
  · refine ey_yne (cd_98 rfl) rfl rfl (fun w => w q6) ?_
    refine ey_iconst (cd_98 rfl) ?_
    refine ey_goto (cd_98 rfl) rfl ?_
    exact ey_rs (s0 := [jI 0]) (s1 := [jI (if (jw p0) = 0 then 0 else (if (jw p0) = 1 then (v1 * v3) else ((v1 * v3) + (jdiv (v1 * v3) 4))))]) (by rw [show ((if (jw p0) = 0 then 0 else (if (jw p0) = 1 then (v1 * v3) else ((v1 * v3) + (jdiv (v1 * v3) 4)))) : Int) = 0 from (if_pos q6)]) (K5 (jup (jlf (jla 0 [jR (some this), jI p0])) 2 (jI (v1 * v3))) )
  · refine ey_zne (cd_98 rfl) rfl rfl q6 ?_
    refine ey_iload_n (cd_98 rfl) (jup_pi (lv := (jlf (jla 0 [jR (some this), jI p0]))) (j := 1) (v := jI (v1 * v3)) (z := p0) rfl) ?_
    refine ey_iconst (cd_98 rfl) ?_
    by_cases q7 : (jw p0) = 1
    · refine ey_nne (cd_98 rfl) rfl rfl (show jw 1 = 1 from by decide) (fun w => w q7) ?_
      refine ey_iload_n (cd_98 rfl) rfl ?_
      refine ey_goto (cd_98 rfl) rfl ?_
      exact ey_rs (s0 := [jI (v1 * v3)]) (s1 := [jI (if (jw p0) = 0 then 0 else (if (jw p0) = 1 then (v1 * v3) else ((v1 * v3) + (jdiv (v1 * v3) 4))))]) (by rw [show ((if (jw p0) = 0 then 0 else (if (jw p0) = 1 then (v1 * v3) else ((v1 * v3) + (jdiv (v1 * v3) 4)))) : Int) = (v1 * v3) from ((if_neg q6).trans (if_pos q7))]) (K5 (jup (jlf (jla 0 [jR (some this), jI p0])) 2 (jI (v1 * v3))) )
    · refine ey_cne (cd_98 rfl) rfl rfl (show jw 1 = 1 from by decide) q7 ?_
      refine ey_iload_n (cd_98 rfl) rfl ?_
      refine ey_iload_n (cd_98 rfl) rfl ?_
      refine ey_iconst (cd_98 rfl) ?_
      refine ey_idiv (cd_98 rfl) (by decide) ?_
      refine ey_iadd (cd_98 rfl) ?_
      exact ey_rs (s0 := [jI ((v1 * v3) + (jdiv (v1 * v3) 4))]) (s1 := [jI (if (jw p0) = 0 then 0 else (if (jw p0) = 1 then (v1 * v3) else ((v1 * v3) + (jdiv (v1 * v3) 4))))]) (by rw [show ((if (jw p0) = 0 then 0 else (if (jw p0) = 1 then (v1 * v3) else ((v1 * v3) + (jdiv (v1 * v3) 4)))) : Int) = ((v1 * v3) + (jdiv (v1 * v3) 4)) from ((if_neg q6).trans (if_neg q7))]) (K5 (jup (jlf (jla 0 [jR (some this), jI p0])) 2 (jI (v1 * v3))) )
theorem cd_80 {pc : Nat} {i : Instr × Nat} (h : mm_lk mm_c80 pc = some i) : mm_cd 80 pc = some i := h
theorem mt_80 : mm_MT 80 = (5, 11, none, 2, 0, []) := rfl
set_option maxRecDepth 100000 in
theorem jk_80_b161 {L : Nat} {xs : Nat → Int32} {this : Nat} {x1 : Int} {x3 : Int} {x4 : Int} {x5 : Int} {x6 : Int} {x7 : Int} {x8 : Int} {x9 : Int} {x10 : Int} {h : jH} {o : ((Int × Int × jH) ⊕ (Int × jH))} {r : mm_R} (e : jd_80_b161 this x1 x3 x4 x5 x6 x7 x8 x9 x10 h = some o) (K : jsm (fun s => (∀ lv : jL, lv 0 = some (jR (some this)) → lv 1 = some (jI x1) → lv 3 = some (jI x3) → lv 4 = some (jI x4) → lv 5 = some (jI x5) → lv 6 = some (jI x6) → lv 7 = some (jI s.1) → lv 8 = some (jI x8) → lv 9 = some (jI s.2.1) → ey (mm_xt L xs) 1 80 89 lv [] s.2.2 r)) (fun x => (∀ lv : jL, lv 0 = some (jR (some this)) → lv 1 = some (jI x1) → lv 3 = some (jI x3) → lv 4 = some (jI x4) → lv 5 = some (jI x5) → lv 6 = some (jI x6) → lv 7 = some (jI x.1) → lv 8 = some (jI x8) → ey (mm_xt L xs) 1 80 179 lv [] x.2 r)) o) : ∀ lv : jL, lv 0 = some (jR (some this)) → lv 1 = some (jI x1) → lv 3 = some (jI x3) → lv 4 = some (jI x4) → lv 5 = some (jI x5) → lv 6 = some (jI x6) → lv 7 = some (jI x7) → lv 8 = some (jI x8) → lv 9 = some (jI x9) → lv 10 = some (jI x10) → ey (mm_xt L xs) 1 80 161 lv [] h r := by
  intro lv f0 f1 f3 f4 f5 f6 f7 f8 f9 f10
  unfold jd_80_b161 at e
  refine ey_aload_n (cd_80 rfl) f0 ?_
  obtain ⟨r37, e38, e⟩ := jbind e
  refine ey_getf_r (cd_80 rfl) mt_80 rfl rfl rfl e38 ?_
  refine ey_iload (cd_80 rfl) f7 ?_
  refine ey_iinc (cd_80 rfl) mt_80 rfl f7 ?_
  refine ey_iload (cd_80 rfl) f10 ?_
  obtain ⟨a39, e40, e⟩ := jbind e
  refine ey_rs (s0 := [jI x10, jI x7, jR r37]) (s1 := [jI x10, jI x7, jR (some a39)]) (by rw [e40]) ?_
  obtain ⟨h41, e42, e⟩ := jbind e
  refine ey_iast (cd_80 rfl) e42 ?_
  refine ey_iinc (cd_80 rfl) mt_80 rfl f9 ?_
  refine ey_goto (cd_80 rfl) rfl ?_
  cases e
  exact K (jup (jup lv 7 (jI (x7 + 1))) 9 (jI (x9 + 1))) f0 f1 f3 f4 f5 (jup_o rfl (jup_pi (lv := lv) (j := 6) (v := jI (x7 + 1)) (z := x6) f6)) rfl (jup_pi (lv := (jup lv 7 (jI (x7 + 1)))) (j := 8) (v := jI (x9 + 1)) (z := x8) f8) rfl
set_option maxRecDepth 100000 in
theorem jk_80_b131 {L : Nat} {xs : Nat → Int32} {this : Nat} {x1 : Int} {x3 : Int} {x4 : Int} {x5 : Int} {x6 : Int} {x7 : Int} {x8 : Int} {x9 : Int} {x10 : Int} {h : jH} {o : ((Int × Int × jH) ⊕ (Int × jH))} {r : mm_R} (e : jd_80_b131 this x1 x3 x4 x5 x6 x7 x8 x9 x10 h = some o) (K : jsm (fun s => (∀ lv : jL, lv 0 = some (jR (some this)) → lv 1 = some (jI x1) → lv 3 = some (jI x3) → lv 4 = some (jI x4) → lv 5 = some (jI x5) → lv 6 = some (jI x6) → lv 7 = some (jI s.1) → lv 8 = some (jI x8) → lv 9 = some (jI s.2.1) → ey (mm_xt L xs) 1 80 89 lv [] s.2.2 r)) (fun x => (∀ lv : jL, lv 0 = some (jR (some this)) → lv 1 = some (jI x1) → lv 3 = some (jI x3) → lv 4 = some (jI x4) → lv 5 = some (jI x5) → lv 6 = some (jI x6) → lv 7 = some (jI x.1) → lv 8 = some (jI x8) → ey (mm_xt L xs) 1 80 179 lv [] x.2 r)) o) : ∀ lv : jL, lv 0 = some (jR (some this)) → lv 1 = some (jI x1) → lv 3 = some (jI x3) → lv 4 = some (jI x4) → lv 5 = some (jI x5) → lv 6 = some (jI x6) → lv 7 = some (jI x7) → lv 8 = some (jI x8) → lv 9 = some (jI x9) → lv 10 = some (jI x10) → ey (mm_xt L xs) 1 80 131 lv [] h r := by
  intro lv f0 f1 f3 f4 f5 f6 f7 f8 f9 f10
  unfold jd_80_b131 at e
  refine ey_iload_n (cd_80 rfl) f1 ?_
  refine ey_iconst (cd_80 rfl) ?_
  by_cases q36 : (jw x1) ≤ 5
  · rw [if_pos q36] at e
    refine ey_cle (cd_80 rfl) rfl rfl (show jw 5 = 5 from by decide) q36 ?_
    exact jk_80_b161 e K lv f0 f1 f3 f4 f5 f6 f7 f8 f9 f10
  · rw [if_neg q36] at e
    refine ey_nle (cd_80 rfl) rfl rfl (show jw 5 = 5 from by decide) q36 ?_
    refine ey_aload_n (cd_80 rfl) f0 ?_
    obtain ⟨v43, e44, e⟩ := jbind e
    refine ey_getf_i (cd_80 rfl) mt_80 rfl rfl rfl e44 ?_
    by_cases q45 : (jw v43) ≤ 0
    · rw [if_pos q45] at e
      refine ey_zle (cd_80 rfl) rfl rfl q45 ?_
      exact jk_80_b161 e K lv f0 f1 f3 f4 f5 f6 f7 f8 f9 f10
    · rw [if_neg q45] at e
      refine ey_yle (cd_80 rfl) rfl rfl q45 ?_
      refine ey_aload_n (cd_80 rfl) f0 ?_
      obtain ⟨r46, e47, e⟩ := jbind e
      refine ey_getf_r (cd_80 rfl) mt_80 rfl rfl rfl e47 ?_
      obtain ⟨a48, e49, e⟩ := jbind e
      refine ey_rs (s0 := [jR r46]) (s1 := [jR (some a48)]) (by rw [e49]) ?_
      obtain ⟨r50, e51, e⟩ := jbind e
      refine ey_getf_r (cd_80 rfl) mt_80 rfl rfl rfl e51 ?_
      refine ey_iload (cd_80 rfl) f5 ?_
      refine ey_iload (cd_80 rfl) f4 ?_
      refine ey_isub (cd_80 rfl) ?_
      refine ey_iload (cd_80 rfl) f9 ?_
      refine ey_iadd (cd_80 rfl) ?_
      obtain ⟨a52, e53, e⟩ := jbind e
      refine ey_rs (s0 := [jI ((x5 - x4) + x9), jR r50]) (s1 := [jI ((x5 - x4) + x9), jR (some a52)]) (by rw [e53]) ?_
      obtain ⟨v54, e55, e⟩ := jbind e
      refine ey_iald (cd_80 rfl) e55 ?_
      refine ey_istore (cd_80 rfl) mt_80 rfl ?_
      exact jk_80_b161 e K (jup lv 10 (jI v54)) f0 f1 f3 f4 f5 f6 f7 f8 (jup_pi (lv := lv) (j := 9) (v := jI v54) (z := x9) f9) rfl
set_option maxRecDepth 100000 in
theorem jk_80_s89 {L : Nat} {xs : Nat → Int32} {this : Nat} {x1 : Int} {x3 : Int} {x4 : Int} {x5 : Int} {x6 : Int} {x8 : Int} {x7 : Int} {x9 : Int} {h : jH} {o : ((Int × Int × jH) ⊕ (Int × jH))} {r : mm_R} (e : jd_80_s89 this x1 x3 x4 x5 x6 x8 x7 x9 h = some o) (K : jsm (fun s => (∀ lv : jL, lv 0 = some (jR (some this)) → lv 1 = some (jI x1) → lv 3 = some (jI x3) → lv 4 = some (jI x4) → lv 5 = some (jI x5) → lv 6 = some (jI x6) → lv 7 = some (jI s.1) → lv 8 = some (jI x8) → lv 9 = some (jI s.2.1) → ey (mm_xt L xs) 1 80 89 lv [] s.2.2 r)) (fun x => (∀ lv : jL, lv 0 = some (jR (some this)) → lv 1 = some (jI x1) → lv 3 = some (jI x3) → lv 4 = some (jI x4) → lv 5 = some (jI x5) → lv 6 = some (jI x6) → lv 7 = some (jI x.1) → lv 8 = some (jI x8) → ey (mm_xt L xs) 1 80 179 lv [] x.2 r)) o) : ∀ lv : jL, lv 0 = some (jR (some this)) → lv 1 = some (jI x1) → lv 3 = some (jI x3) → lv 4 = some (jI x4) → lv 5 = some (jI x5) → lv 6 = some (jI x6) → lv 7 = some (jI x7) → lv 8 = some (jI x8) → lv 9 = some (jI x9) → ey (mm_xt L xs) 1 80 89 lv [] h r := by
  intro lv f0 f1 f3 f4 f5 f6 f7 f8 f9
  unfold jd_80_s89 at e
  refine ey_iload (cd_80 rfl) f9 ?_
  refine ey_iload_n (cd_80 rfl) f3 ?_
  by_cases q31 : (jw x3) ≤ (jw x9)
  · rw [if_pos q31] at e
    refine ey_cge (cd_80 rfl) rfl rfl rfl q31 ?_
    cases e
    exact K lv f0 f1 f3 f4 f5 f6 f7 f8
  · rw [if_neg q31] at e
    refine ey_nge (cd_80 rfl) rfl rfl rfl q31 ?_
    refine ey_iload (cd_80 rfl) f6 ?_
    refine ey_istore (cd_80 rfl) mt_80 rfl ?_
    refine ey_iload_n (cd_80 rfl) f1 ?_
    refine ey_iconst (cd_80 rfl) ?_
    by_cases q32 : (jw x1) = 5
    · rw [if_pos q32] at e
      refine ey_nne (cd_80 rfl) rfl rfl (show jw 5 = 5 from by decide) (fun w => w q32) ?_
      refine ey_aload_n (cd_80 rfl) f0 ?_
      obtain ⟨v33, e34, e⟩ := jbind e
      refine ey_getf_i (cd_80 rfl) mt_80 rfl rfl rfl e34 ?_
      by_cases q35 : (jw v33) ≤ 0
      · rw [if_pos q35] at e
        refine ey_zle (cd_80 rfl) rfl rfl q35 ?_
        exact jk_80_b131 e K (jup lv 10 (jI x6)) f0 f1 f3 f4 f5 f6 f7 f8 (jup_pi (lv := lv) (j := 9) (v := jI x6) (z := x9) f9) rfl
      · rw [if_neg q35] at e
        refine ey_yle (cd_80 rfl) rfl rfl q35 ?_
        refine ey_aload_n (cd_80 rfl) f0 ?_
        obtain ⟨r56, e57, e⟩ := jbind e
        refine ey_getf_r (cd_80 rfl) mt_80 rfl rfl rfl e57 ?_
        obtain ⟨a58, e59, e⟩ := jbind e
        refine ey_rs (s0 := [jR r56]) (s1 := [jR (some a58)]) (by rw [e59]) ?_
        obtain ⟨r60, e61, e⟩ := jbind e
        refine ey_getf_r (cd_80 rfl) mt_80 rfl rfl rfl e61 ?_
        refine ey_iload (cd_80 rfl) f5 ?_
        refine ey_iload (cd_80 rfl) f8 ?_
        refine ey_iload (cd_80 rfl) f4 ?_
        refine ey_imul (cd_80 rfl) ?_
        refine ey_iadd (cd_80 rfl) ?_
        refine ey_iconst (cd_80 rfl) ?_
        refine ey_isub (cd_80 rfl) ?_
        obtain ⟨a62, e63, e⟩ := jbind e
        refine ey_rs (s0 := [jI ((x5 + (x8 * x4)) - 1), jR r60]) (s1 := [jI ((x5 + (x8 * x4)) - 1), jR (some a62)]) (by rw [e63]) ?_
        obtain ⟨v64, e65, e⟩ := jbind e
        refine ey_iald (cd_80 rfl) e65 ?_
        refine ey_istore (cd_80 rfl) mt_80 rfl ?_
        exact jk_80_b131 e K (jup (jup lv 10 (jI x6)) 10 (jI v64)) f0 f1 f3 f4 f5 f6 f7 f8 (jup_pi (lv := (jup lv 10 (jI x6))) (j := 9) (v := jI v64) (z := x9) (jup_pi (lv := lv) (j := 9) (v := jI x6) (z := x9) f9)) rfl
    · rw [if_neg q32] at e
      refine ey_cne (cd_80 rfl) rfl rfl (show jw 5 = 5 from by decide) q32 ?_
      exact jk_80_b131 e K (jup lv 10 (jI x6)) f0 f1 f3 f4 f5 f6 f7 f8 (jup_pi (lv := lv) (j := 9) (v := jI x6) (z := x9) f9) rfl
theorem jk_80_l89 {L : Nat} {xs : Nat → Int32} {this : Nat} {x1 : Int} {x3 : Int} {x4 : Int} {x5 : Int} {x6 : Int} {x8 : Int} {x7 : Int} {x9 : Int} {h : jH} {x : (Int × jH)} {r : mm_R} (e : jd_80_l89 this x1 x3 x4 x5 x6 x8 x7 x9 h = some x) (K : (∀ lv : jL, lv 0 = some (jR (some this)) → lv 1 = some (jI x1) → lv 3 = some (jI x3) → lv 4 = some (jI x4) → lv 5 = some (jI x5) → lv 6 = some (jI x6) → lv 7 = some (jI x.1) → lv 8 = some (jI x8) → ey (mm_xt L xs) 1 80 179 lv [] x.2 r)) : ∀ lv : jL, lv 0 = some (jR (some this)) → lv 1 = some (jI x1) → lv 3 = some (jI x3) → lv 4 = some (jI x4) → lv 5 = some (jI x5) → lv 6 = some (jI x6) → lv 7 = some (jI x7) → lv 8 = some (jI x8) → lv 9 = some (jI x9) → ey (mm_xt L xs) 1 80 89 lv [] h r := by
  unfold jd_80_l89 at e
  exact jlp_ok2 (P := fun s => ∀ lv : jL, lv 0 = some (jR (some this)) → lv 1 = some (jI x1) → lv 3 = some (jI x3) → lv 4 = some (jI x4) → lv 5 = some (jI x5) → lv 6 = some (jI x6) → lv 7 = some (jI s.1) → lv 8 = some (jI x8) → lv 9 = some (jI s.2.1) → ey (mm_xt L xs) 1 80 89 lv [] s.2.2 r) (Q := fun x => (∀ lv : jL, lv 0 = some (jR (some this)) → lv 1 = some (jI x1) → lv 3 = some (jI x3) → lv 4 = some (jI x4) → lv 5 = some (jI x5) → lv 6 = some (jI x6) → lv 7 = some (jI x.1) → lv 8 = some (jI x8) → ey (mm_xt L xs) 1 80 179 lv [] x.2 r)) (fun s q hq hk => jk_80_s89 hq hk) jfu _ x e K
set_option maxRecDepth 100000 in
theorem jk_80_s80 {L : Nat} {xs : Nat → Int32} {this : Nat} {x1 : Int} {x3 : Int} {x4 : Int} {x5 : Int} {x6 : Int} {x7 : Int} {x8 : Int} {h : jH} {o : ((Int × Int × jH) ⊕ jH)} {r : mm_R} (e : jd_80_s80 this x1 x3 x4 x5 x6 x7 x8 h = some o) (K : jsm (fun s => (∀ lv : jL, lv 0 = some (jR (some this)) → lv 1 = some (jI x1) → lv 3 = some (jI x3) → lv 4 = some (jI x4) → lv 5 = some (jI x5) → lv 6 = some (jI x6) → lv 7 = some (jI s.1) → lv 8 = some (jI s.2.1) → ey (mm_xt L xs) 1 80 80 lv [] s.2.2 r)) (fun x => (∀ lv : jL, ey (mm_xt L xs) 1 80 185 lv [] x r)) o) : ∀ lv : jL, lv 0 = some (jR (some this)) → lv 1 = some (jI x1) → lv 3 = some (jI x3) → lv 4 = some (jI x4) → lv 5 = some (jI x5) → lv 6 = some (jI x6) → lv 7 = some (jI x7) → lv 8 = some (jI x8) → ey (mm_xt L xs) 1 80 80 lv [] h r := by
  intro lv f0 f1 f3 f4 f5 f6 f7 f8
  unfold jd_80_s80 at e
  refine ey_iload (cd_80 rfl) f8 ?_
  refine ey_iload_n (cd_80 rfl) f3 ?_
  by_cases q30 : (jw x3) ≤ (jw x8)
  · rw [if_pos q30] at e
    refine ey_cge (cd_80 rfl) rfl rfl rfl q30 ?_
    cases e
    exact K lv 
  · rw [if_neg q30] at e
    refine ey_nge (cd_80 rfl) rfl rfl rfl q30 ?_
    refine ey_iconst (cd_80 rfl) ?_
    refine ey_istore (cd_80 rfl) mt_80 rfl ?_
    obtain ⟨x66, e67, e⟩ := jbind e
    refine jk_80_l89 e67 ?_ (jup lv 9 (jI 0)) f0 f1 f3 f4 f5 f6 f7 (jup_pi (lv := lv) (j := 8) (v := jI 0) (z := x8) f8) rfl
    intro lv g0 g1 g3 g4 g5 g6 g7 g8
    refine ey_iinc (cd_80 rfl) mt_80 rfl g8 ?_
    refine ey_goto (cd_80 rfl) rfl ?_
    cases e
    exact K (jup lv 8 (jI (x8 + 1))) g0 g1 g3 g4 g5 g6 (jup_pi (lv := lv) (j := 7) (v := jI (x8 + 1)) (z := x66.1) g7) rfl
theorem jk_80_l80 {L : Nat} {xs : Nat → Int32} {this : Nat} {x1 : Int} {x3 : Int} {x4 : Int} {x5 : Int} {x6 : Int} {x7 : Int} {x8 : Int} {h : jH} {x : jH} {r : mm_R} (e : jd_80_l80 this x1 x3 x4 x5 x6 x7 x8 h = some x) (K : (∀ lv : jL, ey (mm_xt L xs) 1 80 185 lv [] x r)) : ∀ lv : jL, lv 0 = some (jR (some this)) → lv 1 = some (jI x1) → lv 3 = some (jI x3) → lv 4 = some (jI x4) → lv 5 = some (jI x5) → lv 6 = some (jI x6) → lv 7 = some (jI x7) → lv 8 = some (jI x8) → ey (mm_xt L xs) 1 80 80 lv [] h r := by
  unfold jd_80_l80 at e
  exact jlp_ok2 (P := fun s => ∀ lv : jL, lv 0 = some (jR (some this)) → lv 1 = some (jI x1) → lv 3 = some (jI x3) → lv 4 = some (jI x4) → lv 5 = some (jI x5) → lv 6 = some (jI x6) → lv 7 = some (jI s.1) → lv 8 = some (jI s.2.1) → ey (mm_xt L xs) 1 80 80 lv [] s.2.2 r) (Q := fun x => (∀ lv : jL, ey (mm_xt L xs) 1 80 185 lv [] x r)) (fun s q hq hk => jk_80_s80 hq hk) jfu _ x e K
set_option maxRecDepth 100000 in
theorem jk_80_b68 {L : Nat} {xs : Nat → Int32} {this : Nat} {x1 : Int} {x2 : Int} {x3 : Int} {x4 : Int} {x5 : Int} {y0 : Int} {h : jH} {o : jH} (e : jd_80_b68 this x1 x2 x3 x4 x5 y0 h = some o) : ∀ lv : jL, lv 0 = some (jR (some this)) → lv 1 = some (jI x1) → lv 2 = some (jI x2) → lv 3 = some (jI x3) → lv 4 = some (jI x4) → lv 5 = some (jI x5) → ey (mm_xt L xs) 1 80 68 lv [jI y0] h (.inl (none, jaH o)) := by
  intro lv f0 f1 f2 f3 f4 f5
  unfold jd_80_b68 at e
  refine ey_istore (cd_80 rfl) mt_80 rfl ?_
  refine ey_gs (cd_80 rfl) mt_80 rfl rfl ?_
  refine ey_iload_n (cd_80 rfl) f2 ?_
  obtain ⟨v28, e29, e⟩ := jbind e
  refine ey_iast_x (cd_80 rfl) (by decide) e29 ?_
  refine ey_istore (cd_80 rfl) mt_80 rfl ?_
  refine ey_iconst (cd_80 rfl) ?_
  refine ey_istore (cd_80 rfl) mt_80 rfl ?_
  obtain ⟨x68, e69, e⟩ := jbind e
  refine jk_80_l80 e69 ?_ (jup (jup (jup lv 6 (jI y0)) 7 (jI v28)) 8 (jI 0)) f0 f1 f3 f4 (jup_o rfl (jup_o rfl (jup_pi (lv := lv) (j := 5) (v := jI y0) (z := x5) f5))) (jup_o rfl (jup_pi (lv := (jup lv 6 (jI y0))) (j := 6) (v := jI v28) (z := y0) rfl)) (jup_pi (lv := (jup (jup lv 6 (jI y0)) 7 (jI v28))) (j := 7) (v := jI 0) (z := v28) rfl) rfl
  intro lv 
  cases e
  exact ey_retv (cd_80 rfl) mt_80 rfl
set_option maxRecDepth 100000 in
theorem ok_80 {L : Nat} {xs : Nat → Int32} {this : Nat} {p0 : Int} {p1 : Int} {h : jH} {o : jH} (e : jd_80 this p0 p1 h = some o) : mm_Runs (mm_xt L xs) 2 80 ([jR (some this), jI p0, jI p1].map jcv) (jaH h) (.inl (none, jaH o)) := by
  refine ey_run0 _ mt_80 (jsl_s rfl) ?_
  unfold jd_80 at e
  refine ey_iload_n (cd_80 rfl) rfl ?_
  have K70 : ∀ lv : jL, lv 0 = some (jR (some this)) → lv 1 = some (jI p0) → lv 2 = some (jI p1) → ey (mm_xt L xs) 1 80 10 lv [jI (if (jw p1) = 0 then 8 else 4)] h (.inl (none, jaH o)) := by
    intro lv g0 g1 g2
    refine ey_istore_n (cd_80 rfl) mt_80 rfl ?_
    refine ey_aload_n (cd_80 rfl) g0 ?_
    obtain ⟨r1, e2, e⟩ := jbind e
    refine ey_getf_r (cd_80 rfl) mt_80 rfl rfl rfl e2 ?_
    refine ey_iload_n (cd_80 rfl) (jup_pi (lv := lv) (j := 2) (v := jI (if (jw p1) = 0 then 8 else 4)) (z := p1) g2) ?_
    obtain ⟨a3, e4, e⟩ := jbind e
    refine ey_rs (s0 := [jI p1, jR r1]) (s1 := [jI p1, jR (some a3)]) (by rw [e4]) ?_
    obtain ⟨u5, e6, e⟩ := jbind e
    obtain ⟨v7, e8, e⟩ := jbind e
    refine ey_cv (s0 := [jI p1, jR (some a3)]) (s1 := []) (st' := [jI v7]) (cd_80 rfl) mt_80 mt_96 rfl rfl rfl (jck_s e6) rfl (jsml_s rfl) rfl (ok_96 e8) ?_
    refine ey_istore (cd_80 rfl) mt_80 rfl ?_
    refine ey_aload_n (cd_80 rfl) g0 ?_
    obtain ⟨r9, e10, e⟩ := jbind e
    refine ey_getf_r (cd_80 rfl) mt_80 rfl rfl rfl e10 ?_
    refine ey_iload_n (cd_80 rfl) (jup_o rfl (jup_pi (lv := lv) (j := 2) (v := jI (if (jw p1) = 0 then 8 else 4)) (z := p1) g2)) ?_
    obtain ⟨a11, e12, e⟩ := jbind e
    refine ey_rs (s0 := [jI p1, jR r9]) (s1 := [jI p1, jR (some a11)]) (by rw [e12]) ?_
    obtain ⟨u13, e14, e⟩ := jbind e
    obtain ⟨v15, e16, e⟩ := jbind e
    refine ey_cv (s0 := [jI p1, jR (some a11)]) (s1 := []) (st' := [jI v15]) (cd_80 rfl) mt_80 mt_98 rfl rfl rfl (jck_s e14) rfl (jsml_s rfl) rfl (ok_98 e16) ?_
    refine ey_aload_n (cd_80 rfl) g0 ?_
    obtain ⟨v17, e18, e⟩ := jbind e
    refine ey_getf_i (cd_80 rfl) mt_80 rfl rfl rfl e18 ?_
    refine ey_iload_n (cd_80 rfl) (jup_pi (lv := (jup lv 3 (jI (if (jw p1) = 0 then 8 else 4)))) (j := 3) (v := jI v7) (z := (if (jw p1) = 0 then 8 else 4)) rfl) ?_
    refine ey_imul (cd_80 rfl) ?_
    refine ey_iload (cd_80 rfl) rfl ?_
    refine ey_imul (cd_80 rfl) ?_
    refine ey_iadd (cd_80 rfl) ?_
    refine ey_aload_n (cd_80 rfl) g0 ?_
    obtain ⟨v19, e20, e⟩ := jbind e
    refine ey_getf_i (cd_80 rfl) mt_80 rfl rfl rfl e20 ?_
    refine ey_iload_n (cd_80 rfl) (jup_pi (lv := (jup lv 3 (jI (if (jw p1) = 0 then 8 else 4)))) (j := 3) (v := jI v7) (z := (if (jw p1) = 0 then 8 else 4)) rfl) ?_
    refine ey_imul (cd_80 rfl) ?_
    refine ey_iadd (cd_80 rfl) ?_
    obtain ⟨z21, e22, e⟩ := jbind e
    refine ey_rs (s0 := [jI ((v15 + ((v17 * (if (jw p1) = 0 then 8 else 4)) * v7)) + (v19 * (if (jw p1) = 0 then 8 else 4)))]) (s1 := [jI z21]) (by rw [show ((v15 + ((v17 * (if (jw p1) = 0 then 8 else 4)) * v7)) + (v19 * (if (jw p1) = 0 then 8 else 4))) = z21 from Option.some.inj e22]) ?_
    refine ey_istore (cd_80 rfl) mt_80 rfl ?_
    refine ey_iload_n (cd_80 rfl) g1 ?_
    refine ey_iconst (cd_80 rfl) ?_
    by_cases q23 : (jw p0) = 4
    · rw [if_pos q23] at e
      refine ey_nne (cd_80 rfl) rfl rfl (show jw 4 = 4 from by decide) (fun w => w q23) ?_
      refine ey_aload_n (cd_80 rfl) g0 ?_
      refine ey_iload_n (cd_80 rfl) (jup_o rfl (jup_pi (lv := (jup lv 3 (jI (if (jw p1) = 0 then 8 else 4)))) (j := 3) (v := jI v7) (z := (if (jw p1) = 0 then 8 else 4)) rfl)) ?_
      refine ey_iload (cd_80 rfl) (jup_pi (lv := (jup (jup lv 3 (jI (if (jw p1) = 0 then 8 else 4))) 4 (jI v7))) (j := 4) (v := jI z21) (z := v7) rfl) ?_
      refine ey_iload (cd_80 rfl) rfl ?_
      obtain ⟨u24, e25, e⟩ := jbind e
      obtain ⟨v26, e27, e⟩ := jbind e
      refine ey_cv (s0 := [jI z21, jI v7, jI (if (jw p1) = 0 then 8 else 4), jR (some this)]) (s1 := []) (st' := [jI v26]) (cd_80 rfl) mt_80 mt_81 rfl rfl rfl (jck_s e25) rfl (jsml_s rfl) rfl (ok_81 e27) ?_
      refine ey_goto (cd_80 rfl) rfl ?_
      exact jk_80_b68 e (jup (jup (jup lv 3 (jI (if (jw p1) = 0 then 8 else 4))) 4 (jI v7)) 5 (jI z21)) g0 g1 (jup_o rfl (jup_o rfl (jup_pi (lv := lv) (j := 2) (v := jI (if (jw p1) = 0 then 8 else 4)) (z := p1) g2))) (jup_o rfl (jup_pi (lv := (jup lv 3 (jI (if (jw p1) = 0 then 8 else 4)))) (j := 3) (v := jI v7) (z := (if (jw p1) = 0 then 8 else 4)) rfl)) (jup_pi (lv := (jup (jup lv 3 (jI (if (jw p1) = 0 then 8 else 4))) 4 (jI v7))) (j := 4) (v := jI z21) (z := v7) rfl) rfl
    · rw [if_neg q23] at e
      refine ey_cne (cd_80 rfl) rfl rfl (show jw 4 = 4 from by decide) q23 ?_
      refine ey_sipush (cd_80 rfl) (by decide) ?_
      exact jk_80_b68 e (jup (jup (jup lv 3 (jI (if (jw p1) = 0 then 8 else 4))) 4 (jI v7)) 5 (jI z21)) g0 g1 (jup_o rfl (jup_o rfl (jup_pi (lv := lv) (j := 2) (v := jI (if (jw p1) = 0 then 8 else 4)) (z := p1) g2))) (jup_o rfl (jup_pi (lv := (jup lv 3 (jI (if (jw p1) = 0 then 8 else 4)))) (j := 3) (v := jI v7) (z := (if (jw p1) = 0 then 8 else 4)) rfl)) (jup_pi (lv := (jup (jup lv 3 (jI (if (jw p1) = 0 then 8 else 4))) 4 (jI v7))) (j := 4) (v := jI z21) (z := v7) rfl) rfl
  by_cases q71 : (jw p1) = 0
  · refine ey_yne (cd_80 rfl) rfl rfl (fun w => w q71) ?_
    refine ey_bipush (cd_80 rfl) (by decide) ?_
    refine ey_goto (cd_80 rfl) rfl ?_
    exact ey_rs (s0 := [jI 8]) (s1 := [jI (if (jw p1) = 0 then 8 else 4)]) (by rw [show ((if (jw p1) = 0 then 8 else 4) : Int) = 8 from (if_pos q71)]) (K70 (jlf (jla 0 [jR (some this), jI p0, jI p1])) rfl rfl rfl)
  · refine ey_zne (cd_80 rfl) rfl rfl q71 ?_
    refine ey_iconst (cd_80 rfl) ?_
    exact ey_rs (s0 := [jI 4]) (s1 := [jI (if (jw p1) = 0 then 8 else 4)]) (by rw [show ((if (jw p1) = 0 then 8 else 4) : Int) = 4 from (if_neg q71)]) (K70 (jlf (jla 0 [jR (some this), jI p0, jI p1])) rfl rfl rfl)
