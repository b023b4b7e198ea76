theorem cd_114 {pc : Nat} {i : Instr × Nat} (h : mm_lk mm_c114 pc = some i) : mm_cd 114 pc = some i := h
theorem mt_114 : mm_MT 114 = (8, 6, some (.object RX6), 3, 0, []) := rfl
set_option maxRecDepth 100000 in
theorem jk_114_s42 {L : Nat} {xs : Nat → Int32} {this : Nat} {x1 : Option Nat} {x2 : Int} {x3 : Int} {x4 : Int} {x5 : Int} {h : jH} {o : ((Int × jH) ⊕ jH)} {r : mm_R} (e : jd_114_s42 this x1 x2 x3 x4 x5 h = some o) (K : jsm (fun s => (∀ lv : jL, lv 0 = some (jR (some this)) → lv 1 = some (jR x1) → lv 2 = some (jI x2) → lv 3 = some (jI x3) → lv 4 = some (jI x4) → lv 5 = some (jI s.1) → ey (mm_xt L xs) 6 114 42 lv [] s.2 r)) (fun x => (∀ lv : jL, lv 0 = some (jR (some this)) → lv 2 = some (jI x2) → ey (mm_xt L xs) 6 114 82 lv [] x r)) o) : ∀ lv : jL, lv 0 = some (jR (some this)) → lv 1 = some (jR x1) → lv 2 = some (jI x2) → lv 3 = some (jI x3) → lv 4 = some (jI x4) → lv 5 = some (jI x5) → ey (mm_xt L xs) 6 114 42 lv [] h r := by
  intro lv f0 f1 f2 f3 f4 f5
  unfold jd_114_s42 at e
  refine ey_iload (cd_114 rfl) f5 ?_
  refine ey_iload_n (cd_114 rfl) f2 ?_
  by_cases q33 : (jw x2) < (jw x5)
  · rw [if_pos q33] at e
    refine ey_cgt (cd_114 rfl) rfl rfl rfl q33 ?_
    cases e
    exact K lv f0 f2
  · rw [if_neg q33] at e
    refine ey_ngt (cd_114 rfl) rfl rfl rfl q33 ?_
    refine ey_aload_n (cd_114 rfl) f0 ?_
    refine ey_aload_n (cd_114 rfl) f1 ?_
    refine ey_aload_n (cd_114 rfl) f0 ?_
    obtain ⟨r34, e35, e⟩ := jbind e
    refine ey_getf_r (cd_114 rfl) mt_114 rfl rfl rfl e35 ?_
    refine ey_iload (cd_114 rfl) f5 ?_
    refine ey_iload (cd_114 rfl) f4 ?_
    refine ey_iload_n (cd_114 rfl) f3 ?_
    refine ey_iload (cd_114 rfl) f5 ?_
    refine ey_ishr (cd_114 rfl) ?_
    refine ey_iconst (cd_114 rfl) ?_
    refine ey_iand (cd_114 rfl) ?_
    refine ey_iconst (cd_114 rfl) ?_
    have K40 : ∀ lv : jL, lv 0 = some (jR (some this)) → lv 1 = some (jR x1) → lv 2 = some (jI x2) → lv 3 = some (jI x3) → lv 4 = some (jI x4) → lv 5 = some (jI x5) → ey (mm_xt L xs) 6 114 73 lv [jI (if (jw (jand (jshr x3 x5) 1)) = 1 then 1 else 0), jI x4, jI x5, jR r34, jR x1, jR (some this)] h r := by
      intro lv g0 g1 g2 g3 g4 g5
      obtain ⟨u36, e37, e⟩ := jbind e
      obtain ⟨h38, e39, e⟩ := jbind e
      refine ey_cv (s0 := [jI (if (jw (jand (jshr x3 x5) 1)) = 1 then 1 else 0), jI x4, jI x5, jR r34, jR x1, jR (some this)]) (s1 := []) (st' := []) (cd_114 rfl) mt_114 mt_115 rfl rfl rfl (jck_s e37) rfl (jsml_s rfl) rfl (ok_115 e39) ?_
      refine ey_iinc (cd_114 rfl) mt_114 rfl g5 ?_
      refine ey_goto (cd_114 rfl) rfl ?_
      cases e
      exact K (jup lv 5 (jI (x5 + 1))) g0 g1 g2 g3 (jup_pi (lv := lv) (j := 4) (v := jI (x5 + 1)) (z := x4) g4) rfl
    by_cases q41 : (jw (jand (jshr x3 x5) 1)) = 1
    · refine ey_nne (cd_114 rfl) rfl rfl (show jw 1 = 1 from by decide) (fun w => w q41) ?_
      refine ey_iconst (cd_114 rfl) ?_
      refine ey_goto (cd_114 rfl) rfl ?_
      exact ey_rs (s0 := [jI 1, jI x4, jI x5, jR r34, jR x1, jR (some this)]) (s1 := [jI (if (jw (jand (jshr x3 x5) 1)) = 1 then 1 else 0), jI x4, jI x5, jR r34, jR x1, jR (some this)]) (by rw [show ((if (jw (jand (jshr x3 x5) 1)) = 1 then 1 else 0) : Int) = 1 from (if_pos q41)]) (K40 lv f0 f1 f2 f3 f4 f5)
    · refine ey_cne (cd_114 rfl) rfl rfl (show jw 1 = 1 from by decide) q41 ?_
      refine ey_iconst (cd_114 rfl) ?_
      exact ey_rs (s0 := [jI 0, jI x4, jI x5, jR r34, jR x1, jR (some this)]) (s1 := [jI (if (jw (jand (jshr x3 x5) 1)) = 1 then 1 else 0), jI x4, jI x5, jR r34, jR x1, jR (some this)]) (by rw [show ((if (jw (jand (jshr x3 x5) 1)) = 1 then 1 else 0) : Int) = 0 from (if_neg q41)]) (K40 lv f0 f1 f2 f3 f4 f5)
theorem jk_114_l42 {L : Nat} {xs : Nat → Int32} {this : Nat} {x1 : Option Nat} {x2 : Int} {x3 : Int} {x4 : Int} {x5 : Int} {h : jH} {x : jH} {r : mm_R} (e : jd_114_l42 this x1 x2 x3 x4 x5 h = some x) (K : (∀ lv : jL, lv 0 = some (jR (some this)) → lv 2 = some (jI x2) → ey (mm_xt L xs) 6 114 82 lv [] x r)) : ∀ lv : jL, lv 0 = some (jR (some this)) → lv 1 = some (jR x1) → lv 2 = some (jI x2) → lv 3 = some (jI x3) → lv 4 = some (jI x4) → lv 5 = some (jI x5) → ey (mm_xt L xs) 6 114 42 lv [] h r := by
  unfold jd_114_l42 at e
  exact jlp_ok2 (P := fun s => ∀ lv : jL, lv 0 = some (jR (some this)) → lv 1 = some (jR x1) → lv 2 = some (jI x2) → lv 3 = some (jI x3) → lv 4 = some (jI x4) → lv 5 = some (jI s.1) → ey (mm_xt L xs) 6 114 42 lv [] s.2 r) (Q := fun x => (∀ lv : jL, lv 0 = some (jR (some this)) → lv 2 = some (jI x2) → ey (mm_xt L xs) 6 114 82 lv [] x r)) (fun s q hq hk => jk_114_s42 hq hk) jfu _ x e K
set_option maxRecDepth 100000 in
theorem ok_114 {L : Nat} {xs : Nat → Int32} {this : Nat} {p0 : Option Nat} {p1 : Int} {p2 : Int} {h : jH} {o : (Nat × jH)} (e : jd_114 this p0 p1 p2 h = some o) : mm_Runs (mm_xt L xs) 7 114 ([jR (some this), jR p0, jI p1, jI p2].map jcv) (jaH h) (.inl (some (jcv (jR (some o.1))), jaH o.2)) := by
  refine ey_run0 _ mt_114 (jsl_s rfl) ?_
  unfold jd_114 at e
  refine ey_aload_n (cd_114 rfl) rfl ?_
  refine ey_iload_n (cd_114 rfl) rfl ?_
  obtain ⟨a1, e2, e⟩ := jbind e
  refine ey_rs (s0 := [jI p1, jR p0]) (s1 := [jI p1, jR (some a1)]) (by rw [e2]) ?_
  obtain ⟨u3, e4, e⟩ := jbind e
  obtain ⟨v5, e6, e⟩ := jbind e
  refine ey_cv (s0 := [jI p1, jR (some a1)]) (s1 := []) (st' := [jI v5]) (cd_114 rfl) mt_114 mt_37 rfl rfl rfl (jck_s e4) rfl (jsml_s rfl) rfl (mm_Runs.up (d := 1) (by decide) (ok_37 e6)) ?_
  refine ey_istore (cd_114 rfl) mt_114 rfl ?_
  refine ey_aload_n (cd_114 rfl) rfl ?_
  obtain ⟨r7, e8, e⟩ := jbind e
  refine ey_getf_r (cd_114 rfl) mt_114 rfl rfl rfl e8 ?_
  refine ey_aload_n (cd_114 rfl) rfl ?_
  obtain ⟨a9, e10, e⟩ := jbind e
  refine ey_rs (s0 := [jR p0, jR r7]) (s1 := [jR (some a9), jR r7]) (by rw [e10]) ?_
  obtain ⟨v11, e12, e⟩ := jbind e
  refine ey_getf_i (cd_114 rfl) mt_114 rfl rfl rfl e12 ?_
  obtain ⟨a13, e14, e⟩ := jbind e
  refine ey_rs (s0 := [jI v11, jR r7]) (s1 := [jI v11, jR (some a13)]) (by rw [e14]) ?_
  obtain ⟨h15, e16, e⟩ := jbind e
  refine ey_putf_i (cd_114 rfl) mt_114 rfl rfl rfl e16 ?_
  refine ey_aload_n (cd_114 rfl) rfl ?_
  obtain ⟨r17, e18, e⟩ := jbind e
  refine ey_getf_r (cd_114 rfl) mt_114 rfl rfl rfl e18 ?_
  refine ey_aload_n (cd_114 rfl) rfl ?_
  obtain ⟨a19, e20, e⟩ := jbind e
  refine ey_rs (s0 := [jR p0, jR r17]) (s1 := [jR (some a19), jR r17]) (by rw [e20]) ?_
  obtain ⟨v21, e22, e⟩ := jbind e
  refine ey_getf_i (cd_114 rfl) mt_114 rfl rfl rfl e22 ?_
  refine ey_aload_n (cd_114 rfl) rfl ?_
  obtain ⟨a23, e24, e⟩ := jbind e
  refine ey_rs (s0 := [jR p0, jI v21, jR r17]) (s1 := [jR (some a23), jI v21, jR r17]) (by rw [e24]) ?_
  obtain ⟨v25, e26, e⟩ := jbind e
  refine ey_getf_i (cd_114 rfl) mt_114 rfl rfl rfl e26 ?_
  refine ey_iload (cd_114 rfl) rfl ?_
  refine ey_iload_n (cd_114 rfl) rfl ?_
  refine ey_iconst (cd_114 rfl) ?_
  refine ey_iadd (cd_114 rfl) ?_
  obtain ⟨a27, e28, e⟩ := jbind e
  refine ey_rs (s0 := [jI (p1 + 1), jI v5, jI v25, jI v21, jR r17]) (s1 := [jI (p1 + 1), jI v5, jI v25, jI v21, jR (some a27)]) (by rw [e28]) ?_
  obtain ⟨u29, e30, e⟩ := jbind e
  obtain ⟨h31, e32, e⟩ := jbind e
  refine ey_cv (s0 := [jI (p1 + 1), jI v5, jI v25, jI v21, jR (some a27)]) (s1 := []) (st' := []) (cd_114 rfl) mt_114 mt_28 rfl rfl rfl (jck_s e30) rfl (jsml_s rfl) rfl (mm_Runs.up (d := 2) (by decide) (ok_28 e32)) ?_
  refine ey_iload (cd_114 rfl) rfl ?_
  refine ey_istore (cd_114 rfl) mt_114 rfl ?_
  obtain ⟨x42, e43, e⟩ := jbind e
  refine jk_114_l42 e43 ?_ (jup (jup (jlf (jla 0 [jR (some this), jR p0, jI p1, jI p2])) 4 (jI v5)) 5 (jI v5)) rfl rfl rfl (jup_o rfl (jup_pi (lv := (jlf (jla 0 [jR (some this), jR p0, jI p1, jI p2]))) (j := 3) (v := jI v5) (z := p2) rfl)) (jup_pi (lv := (jup (jlf (jla 0 [jR (some this), jR p0, jI p1, jI p2])) 4 (jI v5))) (j := 4) (v := jI v5) (z := v5) rfl) rfl
  intro lv g0 g2
  refine ey_aload_n (cd_114 rfl) g0 ?_
  obtain ⟨r44, e45, e⟩ := jbind e
  refine ey_getf_r (cd_114 rfl) mt_114 rfl rfl rfl e45 ?_
  obtain ⟨a46, e47, e⟩ := jbind e
  refine ey_rs (s0 := [jR r44]) (s1 := [jR (some a46)]) (by rw [e47]) ?_
  obtain ⟨r48, e49, e⟩ := jbind e
  refine ey_getf_r (cd_114 rfl) mt_114 rfl rfl rfl e49 ?_
  refine ey_iload_n (cd_114 rfl) g2 ?_
  obtain ⟨a50, e51, e⟩ := jbind e
  refine ey_rs (s0 := [jI p1, jR r48]) (s1 := [jI p1, jR (some a50)]) (by rw [e51]) ?_
  obtain ⟨r52, e53, e⟩ := jbind e
  refine ey_aald (cd_114 rfl) (by decide) e53 ?_
  obtain ⟨a54, e55, e⟩ := jbind e
  refine ey_rs (s0 := [jR r52]) (s1 := [jR (some a54)]) (by rw [e55]) ?_
  cases e
  exact ey_reta (cd_114 rfl) mt_114 rfl
theorem cd_139 {pc : Nat} {i : Instr × Nat} (h : mm_lk mm_c139 pc = some i) : mm_cd 139 pc = some i := h
theorem mt_139 : mm_MT 139 = (11, 2, none, 0, 2, []) := rfl
set_option maxRecDepth 100000 in
theorem jk_139_s164 {L : Nat} {xs : Nat → Int32} {this : Nat} {x1 : Int} {h : jH} {o : ((Int × jH) ⊕ jH)} {r : mm_R} (e : jd_139_s164 this x1 h = some o) (K : jsm (fun s => (∀ lv : jL, lv 0 = some (jR (some this)) → lv 1 = some (jI s.1) → ey (mm_xt L xs) 3 139 164 lv [] s.2 r)) (fun x => (∀ lv : jL, ey (mm_xt L xs) 3 139 188 lv [] x r)) o) : ∀ lv : jL, lv 0 = some (jR (some this)) → lv 1 = some (jI x1) → ey (mm_xt L xs) 3 139 164 lv [] h r := by
  intro lv f0 f1
  unfold jd_139_s164 at e
  refine ey_iload_n (cd_139 rfl) f1 ?_
  refine ey_iconst (cd_139 rfl) ?_
  by_cases q73 : 4 ≤ (jw x1)
  · rw [if_pos q73] at e
    refine ey_cge (cd_139 rfl) rfl rfl (show jw 4 = 4 from by decide) q73 ?_
    cases e
    exact K lv 
  · rw [if_neg q73] at e
    refine ey_nge (cd_139 rfl) rfl rfl (show jw 4 = 4 from by decide) q73 ?_
    refine ey_aload_n (cd_139 rfl) f0 ?_
    obtain ⟨r74, e75, e⟩ := jbind e
    refine ey_getf_r (cd_139 rfl) mt_139 rfl rfl rfl e75 ?_
    refine ey_iload_n (cd_139 rfl) f1 ?_
    obtain ⟨n76, e77, e⟩ := jbind e
    refine ey_new (cd_139 rfl) mt_139 rfl rfl jdf_7 e77 ?_
    refine ey_dup (cd_139 rfl) rfl ?_
    obtain ⟨h78, e79, e⟩ := jbind e
    refine ey_ci (s0 := [jR (some n76.1), jR (some n76.1), jI x1, jR r74]) (s1 := [jR (some n76.1), jI x1, jR r74]) (st' := [jR (some n76.1), jI x1, jR r74]) (cd_139 rfl) mt_139 mt_109 rfl (by decide) rfl rfl (jsml_s rfl) rfl (mm_Runs.up (d := 1) (by decide) (ok_109 e79)) ?_
    obtain ⟨a80, e81, e⟩ := jbind e
    refine ey_rs (s0 := [jR (some n76.1), jI x1, jR r74]) (s1 := [jR (some n76.1), jI x1, jR (some a80)]) (by rw [e81]) ?_
    obtain ⟨h82, e83, e⟩ := jbind e
    refine ey_aast (cd_139 rfl) (by decide) e83 ?_
    refine ey_iinc (cd_139 rfl) mt_139 rfl f1 ?_
    refine ey_goto (cd_139 rfl) rfl ?_
    cases e
    exact K (jup lv 1 (jI (x1 + 1))) (jup_pr (lv := lv) (j := 0) (v := jI (x1 + 1)) (z := (some this)) f0) rfl
theorem jk_139_l164 {L : Nat} {xs : Nat → Int32} {this : Nat} {x1 : Int} {h : jH} {x : jH} {r : mm_R} (e : jd_139_l164 this x1 h = some x) (K : (∀ lv : jL, ey (mm_xt L xs) 3 139 188 lv [] x r)) : ∀ lv : jL, lv 0 = some (jR (some this)) → lv 1 = some (jI x1) → ey (mm_xt L xs) 3 139 164 lv [] h r := by
  unfold jd_139_l164 at e
  exact jlp_ok2 (P := fun s => ∀ lv : jL, lv 0 = some (jR (some this)) → lv 1 = some (jI s.1) → ey (mm_xt L xs) 3 139 164 lv [] s.2 r) (Q := fun x => (∀ lv : jL, ey (mm_xt L xs) 3 139 188 lv [] x r)) (fun s q hq hk => jk_139_s164 hq hk) jfu _ x e K
set_option maxRecDepth 100000 in
theorem ok_139 {L : Nat} {xs : Nat → Int32} {this : Nat}  {h : jH} {o : jH} (e : jd_139 this  h = some o) : mm_Runs (mm_xt L xs) 4 139 ([jR (some this)].map jcv) (jaH h) (.inl (none, jaH o)) := by
  refine ey_run0 _ mt_139 (jsl_s rfl) ?_
  unfold jd_139 at e
  refine ey_aload_n (cd_139 rfl) rfl ?_
  refine ey_oini (cd_139 rfl) mt_139 rfl (jsml_s rfl) ?_
  refine ey_aload_n (cd_139 rfl) rfl ?_
  refine ey_bipush (cd_139 rfl) (by decide) ?_
  obtain ⟨n1, e2, e⟩ := jbind e
  refine ey_anew (cd_139 rfl) mt_139 rfl (by decide) e2 ?_
  obtain ⟨h3, e4, e⟩ := jbind e
  refine ey_putf_r (cd_139 rfl) mt_139 rfl rfl rfl e4 ?_
  refine ey_aload_n (cd_139 rfl) rfl ?_
  refine ey_iconst (cd_139 rfl) ?_
  obtain ⟨h5, e6, e⟩ := jbind e
  refine ey_putf_i (cd_139 rfl) mt_139 rfl rfl rfl e6 ?_
  refine ey_aload_n (cd_139 rfl) rfl ?_
  refine ey_sipush (cd_139 rfl) (by decide) ?_
  obtain ⟨n7, e8, e⟩ := jbind e
  refine ey_newarr (cd_139 rfl) (by decide) e8 ?_
  obtain ⟨h9, e10, e⟩ := jbind e
  refine ey_putf_r (cd_139 rfl) mt_139 rfl rfl rfl e10 ?_
  refine ey_aload_n (cd_139 rfl) rfl ?_
  refine ey_iconst (cd_139 rfl) ?_
  obtain ⟨h11, e12, e⟩ := jbind e
  refine ey_putf_i (cd_139 rfl) mt_139 rfl rfl rfl e12 ?_
  refine ey_aload_n (cd_139 rfl) rfl ?_
  refine ey_bipush (cd_139 rfl) (by decide) ?_
  obtain ⟨n13, e14, e⟩ := jbind e
  refine ey_newarr (cd_139 rfl) (by decide) e14 ?_
  refine ey_dup (cd_139 rfl) rfl ?_
  refine ey_iconst (cd_139 rfl) ?_
  refine ey_bipush (cd_139 rfl) (by decide) ?_
  obtain ⟨h15, e16, e⟩ := jbind e
  refine ey_iast (cd_139 rfl) e16 ?_
  refine ey_dup (cd_139 rfl) rfl ?_
  refine ey_iconst (cd_139 rfl) ?_
  refine ey_iconst (cd_139 rfl) ?_
  obtain ⟨h17, e18, e⟩ := jbind e
  refine ey_iast (cd_139 rfl) e18 ?_
  refine ey_dup (cd_139 rfl) rfl ?_
  refine ey_iconst (cd_139 rfl) ?_
  refine ey_iconst (cd_139 rfl) ?_
  obtain ⟨h19, e20, e⟩ := jbind e
  refine ey_iast (cd_139 rfl) e20 ?_
  refine ey_dup (cd_139 rfl) rfl ?_
  refine ey_iconst (cd_139 rfl) ?_
  refine ey_iconst (cd_139 rfl) ?_
  obtain ⟨h21, e22, e⟩ := jbind e
  refine ey_iast (cd_139 rfl) e22 ?_
  refine ey_dup (cd_139 rfl) rfl ?_
  refine ey_iconst (cd_139 rfl) ?_
  refine ey_iconst (cd_139 rfl) ?_
  obtain ⟨h23, e24, e⟩ := jbind e
  refine ey_iast (cd_139 rfl) e24 ?_
  refine ey_dup (cd_139 rfl) rfl ?_
  refine ey_iconst (cd_139 rfl) ?_
  refine ey_iconst (cd_139 rfl) ?_
  obtain ⟨h25, e26, e⟩ := jbind e
  refine ey_iast (cd_139 rfl) e26 ?_
  refine ey_dup (cd_139 rfl) rfl ?_
  refine ey_bipush (cd_139 rfl) (by decide) ?_
  refine ey_sipush (cd_139 rfl) (by decide) ?_
  obtain ⟨h27, e28, e⟩ := jbind e
  refine ey_iast (cd_139 rfl) e28 ?_
  refine ey_dup (cd_139 rfl) rfl ?_
  refine ey_bipush (cd_139 rfl) (by decide) ?_
  refine ey_iconst (cd_139 rfl) ?_
  obtain ⟨h29, e30, e⟩ := jbind e
  refine ey_iast (cd_139 rfl) e30 ?_
  obtain ⟨h31, e32, e⟩ := jbind e
  refine ey_putf_r (cd_139 rfl) mt_139 rfl rfl rfl e32 ?_
  refine ey_aload_n (cd_139 rfl) rfl ?_
  refine ey_bipush (cd_139 rfl) (by decide) ?_
  obtain ⟨n33, e34, e⟩ := jbind e
  refine ey_anew (cd_139 rfl) mt_139 rfl (by decide) e34 ?_
  obtain ⟨h35, e36, e⟩ := jbind e
  refine ey_putf_r (cd_139 rfl) mt_139 rfl rfl rfl e36 ?_
  refine ey_aload_n (cd_139 rfl) rfl ?_
  refine ey_iconst (cd_139 rfl) ?_
  obtain ⟨h37, e38, e⟩ := jbind e
  refine ey_putf_i (cd_139 rfl) mt_139 rfl rfl rfl e38 ?_
  refine ey_aload_n (cd_139 rfl) rfl ?_
  refine ey_bipush (cd_139 rfl) (by decide) ?_
  obtain ⟨n39, e40, e⟩ := jbind e
  refine ey_anew (cd_139 rfl) mt_139 rfl (by decide) e40 ?_
  obtain ⟨h41, e42, e⟩ := jbind e
  refine ey_putf_r (cd_139 rfl) mt_139 rfl rfl rfl e42 ?_
  refine ey_aload_n (cd_139 rfl) rfl ?_
  refine ey_iconst (cd_139 rfl) ?_
  obtain ⟨h43, e44, e⟩ := jbind e
  refine ey_putf_i (cd_139 rfl) mt_139 rfl rfl rfl e44 ?_
  refine ey_aload_n (cd_139 rfl) rfl ?_
  refine ey_bipush (cd_139 rfl) (by decide) ?_
  obtain ⟨n45, e46, e⟩ := jbind e
  refine ey_newarr (cd_139 rfl) (by decide) e46 ?_
  obtain ⟨h47, e48, e⟩ := jbind e
  refine ey_putf_r (cd_139 rfl) mt_139 rfl rfl rfl e48 ?_
  refine ey_aload_n (cd_139 rfl) rfl ?_
  refine ey_iconst (cd_139 rfl) ?_
  obtain ⟨h49, e50, e⟩ := jbind e
  refine ey_putf_i (cd_139 rfl) mt_139 rfl rfl rfl e50 ?_
  refine ey_aload_n (cd_139 rfl) rfl ?_
  refine ey_bipush (cd_139 rfl) (by decide) ?_
  obtain ⟨n51, e52, e⟩ := jbind e
  refine ey_anew (cd_139 rfl) mt_139 rfl (by decide) e52 ?_
  obtain ⟨h53, e54, e⟩ := jbind e
  refine ey_putf_r (cd_139 rfl) mt_139 rfl rfl rfl e54 ?_
  refine ey_aload_n (cd_139 rfl) rfl ?_
  refine ey_iconst (cd_139 rfl) ?_
  obtain ⟨h55, e56, e⟩ := jbind e
  refine ey_putf_i (cd_139 rfl) mt_139 rfl rfl rfl e56 ?_
  refine ey_aload_n (cd_139 rfl) rfl ?_
  refine ey_iconst (cd_139 rfl) ?_
  obtain ⟨n57, e58, e⟩ := jbind e
  refine ey_anew (cd_139 rfl) mt_139 rfl (by decide) e58 ?_
  obtain ⟨h59, e60, e⟩ := jbind e
  refine ey_putf_r (cd_139 rfl) mt_139 rfl rfl rfl e60 ?_
  refine ey_aload_n (cd_139 rfl) rfl ?_
  obtain ⟨n61, e62, e⟩ := jbind e
  refine ey_new (cd_139 rfl) mt_139 rfl rfl jdf_8 e62 ?_
  refine ey_dup (cd_139 rfl) rfl ?_
  obtain ⟨h63, e64, e⟩ := jbind e
  refine ey_ci (s0 := [jR (some n61.1), jR (some n61.1), jR (some this)]) (s1 := [jR (some n61.1), jR (some this)]) (st' := [jR (some n61.1), jR (some this)]) (cd_139 rfl) mt_139 mt_113 rfl (by decide) rfl rfl (jsml_s rfl) rfl (mm_Runs.up (d := 2) (by decide) (ok_113 e64)) ?_
  obtain ⟨h65, e66, e⟩ := jbind e
  refine ey_putf_r (cd_139 rfl) mt_139 rfl rfl rfl e66 ?_
  refine ey_aload_n (cd_139 rfl) rfl ?_
  obtain ⟨n67, e68, e⟩ := jbind e
  refine ey_new (cd_139 rfl) mt_139 rfl rfl jdf_4 e68 ?_
  refine ey_dup (cd_139 rfl) rfl ?_
  obtain ⟨h69, e70, e⟩ := jbind e
  refine ey_ci (s0 := [jR (some n67.1), jR (some n67.1), jR (some this)]) (s1 := [jR (some n67.1), jR (some this)]) (st' := [jR (some n67.1), jR (some this)]) (cd_139 rfl) mt_139 mt_59 rfl (by decide) rfl rfl (jsml_s rfl) rfl (ok_59 e70) ?_
  obtain ⟨h71, e72, e⟩ := jbind e
  refine ey_putf_r (cd_139 rfl) mt_139 rfl rfl rfl e72 ?_
  refine ey_iconst (cd_139 rfl) ?_
  refine ey_istore_n (cd_139 rfl) mt_139 rfl ?_
  obtain ⟨x84, e85, e⟩ := jbind e
  refine jk_139_l164 e85 ?_ (jup (jlf (jla 0 [jR (some this)])) 1 (jI 0)) (jup_pr (lv := (jlf (jla 0 [jR (some this)]))) (j := 0) (v := jI 0) (z := (some this)) rfl) rfl
  intro lv 
  cases e
  exact ey_retv (cd_139 rfl) mt_139 rfl
theorem cd_182 {pc : Nat} {i : Instr × Nat} (h : mm_lk mm_c182 pc = some i) : mm_cd 182 pc = some i := h
theorem mt_182 : mm_MT 182 = (11, 1, some .boolean, 1, 1, []) := rfl
theorem bo_182 {p0 : Int} : jd_182 p0 = 0 ∨ jd_182 p0 = 1 := by
  unfold jd_182
  exact (jbo_ite (Or.inr rfl) (jbo_ite (Or.inr rfl) (jbo_ite (Or.inr rfl) (Or.inl rfl))))
set_option maxRecDepth 100000 in
theorem ok_182 {L : Nat} {xs : Nat → Int32} {p0 : Int} {h : jH} : mm_Runs (mm_xt L xs) 1 182 ([jI p0].map jcv) (jaH h) (.inl (some (jcv (jI (jd_182 p0))), jaH h)) := by
  refine ey_run0 _ mt_182 (jsl_s rfl) ?_
  refine ey_iload_n (cd_182 rfl) rfl ?_
  refine ey_bipush (cd_182 rfl) (by decide) ?_
  by_cases q1 : (jw p0) = 8
  · refine ey_ceq (cd_182 rfl) rfl rfl (show jw 8 = 8 from by decide) q1 ?_
    refine ey_iconst (cd_182 rfl) ?_
    refine ey_goto (cd_182 rfl) rfl ?_
    rw [show (jd_182 p0) = 1 from by unfold jd_182; exact (if_pos q1)]
    exact ey_retz (cd_182 rfl) mt_182 rfl (Or.inr rfl)
  · refine ey_neq (cd_182 rfl) rfl rfl (show jw 8 = 8 from by decide) q1 ?_
    refine ey_iload_n (cd_182 rfl) rfl ?_
    refine ey_bipush (cd_182 rfl) (by decide) ?_
    by_cases q2 : (jw p0) = 16
    · refine ey_ceq (cd_182 rfl) rfl rfl (show jw 16 = 16 from by decide) q2 ?_
      refine ey_iconst (cd_182 rfl) ?_
      refine ey_goto (cd_182 rfl) rfl ?_
      rw [show (jd_182 p0) = 1 from by unfold jd_182; exact ((if_neg q1).trans (if_pos q2))]
      exact ey_retz (cd_182 rfl) mt_182 rfl (Or.inr rfl)
    · refine ey_neq (cd_182 rfl) rfl rfl (show jw 16 = 16 from by decide) q2 ?_
      refine ey_iload_n (cd_182 rfl) rfl ?_
      refine ey_bipush (cd_182 rfl) (by decide) ?_
      by_cases q3 : (jw p0) = 24
      · refine ey_nne (cd_182 rfl) rfl rfl (show jw 24 = 24 from by decide) (fun w => w q3) ?_
        refine ey_iconst (cd_182 rfl) ?_
        refine ey_goto (cd_182 rfl) rfl ?_
        rw [show (jd_182 p0) = 1 from by unfold jd_182; exact ((if_neg q1).trans ((if_neg q2).trans (if_pos q3)))]
        exact ey_retz (cd_182 rfl) mt_182 rfl (Or.inr rfl)
      · refine ey_cne (cd_182 rfl) rfl rfl (show jw 24 = 24 from by decide) q3 ?_
        refine ey_iconst (cd_182 rfl) ?_
        rw [show (jd_182 p0) = 0 from by unfold jd_182; exact ((if_neg q1).trans ((if_neg q2).trans (if_neg q3)))]
        exact ey_retz (cd_182 rfl) mt_182 rfl (Or.inl rfl)
theorem cd_184 {pc : Nat} {i : Instr × Nat} (h : mm_lk mm_c184 pc = some i) : mm_cd 184 pc = some i := h
theorem mt_184 : mm_MT 184 = (11, 1, none, 1, 1, []) := rfl
set_option maxRecDepth 100000 in
theorem jk_184_b11 {L : Nat} {xs : Nat → Int32}  {h : jH} {o : ((Unit ⊕ Nat) × jH)} (e : jd_184_b11  h = some o) : ∀ lv : jL, ey (mm_xt L xs) 0 184 11 lv [] h (jres_v o) := by
  intro lv 
  unfold jd_184_b11 at e
  obtain ⟨u2, e3, e⟩ := jbind e
  cases e
  exact ey_throw (st := []) (f := (0, 85, 432, 89, 1)) (cd_184 rfl) mt_184 rfl rfl rfl (j6_s e3) (jsml_s rfl)
set_option maxRecDepth 100000 in
theorem ok_184 {L : Nat} {xs : Nat → Int32} {p0 : Int} {h : jH} {o : ((Unit ⊕ Nat) × jH)} (e : jd_184 p0 h = some o) : mm_Runs (mm_xt L xs) 1 184 ([jI p0].map jcv) (jaH h) (jres_v o) := by
  refine ey_run0 _ mt_184 (jsl_s rfl) ?_
  unfold jd_184 at e
  refine ey_iload_n (cd_184 rfl) rfl ?_
  by_cases q1 : (jw p0) < 0
  · rw [if_pos q1] at e
    refine ey_zlt (cd_184 rfl) rfl rfl q1 ?_
    exact jk_184_b11 e (jlf (jla 0 [jI p0])) 
  · rw [if_neg q1] at e
    refine ey_ylt (cd_184 rfl) rfl rfl q1 ?_
    refine ey_iload_n (cd_184 rfl) rfl ?_
    refine ey_sipush (cd_184 rfl) (by decide) ?_
    by_cases q4 : (jw p0) ≤ 255
    · rw [if_pos q4] at e
      refine ey_cle (cd_184 rfl) rfl rfl (show jw 255 = 255 from by decide) q4 ?_
      cases e
      exact ey_retv (cd_184 rfl) mt_184 rfl
    · rw [if_neg q4] at e
      refine ey_nle (cd_184 rfl) rfl rfl (show jw 255 = 255 from by decide) q4 ?_
      exact jk_184_b11 e (jlf (jla 0 [jI p0])) 
theorem cd_194 {pc : Nat} {i : Instr × Nat} (h : mm_lk mm_c194 pc = some i) : mm_cd 194 pc = some i := h
theorem mt_194 : mm_MT 194 = (11, 1, some (.object RX6), 0, 0, []) := rfl
set_option maxRecDepth 100000 in
theorem jk_194_b48 {L : Nat} {xs : Nat → Int32} {this : Nat}  {h : jH} {o : ((Nat ⊕ Nat) × jH)} (e : jd_194_b48 this  h = some o) : ∀ lv : jL, lv 0 = some (jR (some this)) → ey (mm_xt L xs) 1 194 48 lv [] h (jres_a o) := by
  intro lv f0
  unfold jd_194_b48 at e
  refine ey_aload_n (cd_194 rfl) f0 ?_
  obtain ⟨r25, e26, e⟩ := jbind e
  refine ey_getf_r (cd_194 rfl) mt_194 rfl rfl rfl e26 ?_
  refine ey_aload_n (cd_194 rfl) f0 ?_
  obtain ⟨v27, e28, e⟩ := jbind e
  refine ey_getf_i (cd_194 rfl) mt_194 rfl rfl rfl e28 ?_
  obtain ⟨a29, e30, e⟩ := jbind e
  refine ey_rs (s0 := [jI v27, jR r25]) (s1 := [jI v27, jR (some a29)]) (by rw [e30]) ?_
  obtain ⟨r31, e32, e⟩ := jbind e
  refine ey_aald (cd_194 rfl) (by decide) e32 ?_
  obtain ⟨a33, e34, e⟩ := jbind e
  refine ey_rs (s0 := [jR r31]) (s1 := [jR (some a33)]) (by rw [e34]) ?_
  cases e
  exact ey_reta (cd_194 rfl) mt_194 rfl
set_option maxRecDepth 100000 in
theorem ok_194 {L : Nat} {xs : Nat → Int32} {this : Nat}  {h : jH} {o : ((Nat ⊕ Nat) × jH)} (e : jd_194 this  h = some o) : mm_Runs (mm_xt L xs) 2 194 ([jR (some this)].map jcv) (jaH h) (jres_a o) := by
  refine ey_run0 _ mt_194 (jsl_s rfl) ?_
  unfold jd_194 at e
  refine ey_aload_n (cd_194 rfl) rfl ?_
  obtain ⟨v1, e2, e⟩ := jbind e
  refine ey_getf_i (cd_194 rfl) mt_194 rfl rfl rfl e2 ?_
  refine ey_bipush (cd_194 rfl) (by decide) ?_
  by_cases q3 : (jw v1) < 60
  · rw [if_pos q3] at e
    refine ey_clt (cd_194 rfl) rfl rfl (show jw 60 = 60 from by decide) q3 ?_
    refine ey_aload_n (cd_194 rfl) rfl ?_
    obtain ⟨r4, e5, e⟩ := jbind e
    refine ey_getf_r (cd_194 rfl) mt_194 rfl rfl rfl e5 ?_
    refine ey_aload_n (cd_194 rfl) rfl ?_
    obtain ⟨v6, e7, e⟩ := jbind e
    refine ey_getf_i (cd_194 rfl) mt_194 rfl rfl rfl e7 ?_
    obtain ⟨a8, e9, e⟩ := jbind e
    refine ey_rs (s0 := [jI v6, jR r4]) (s1 := [jI v6, jR (some a8)]) (by rw [e9]) ?_
    obtain ⟨r10, e11, e⟩ := jbind e
    refine ey_aald (cd_194 rfl) (by decide) e11 ?_
    by_cases q12 : r10 = none
    · rw [if_pos q12] at e
      refine ey_rs (s0 := [jR r10]) (s1 := [jR none]) (by rw [q12]) ?_
      refine ey_ifnonnull_n (cd_194 rfl) rfl ?_
      refine ey_aload_n (cd_194 rfl) rfl ?_
      obtain ⟨r13, e14, e⟩ := jbind e
      refine ey_getf_r (cd_194 rfl) mt_194 rfl rfl rfl e14 ?_
      refine ey_aload_n (cd_194 rfl) rfl ?_
      obtain ⟨v15, e16, e⟩ := jbind e
      refine ey_getf_i (cd_194 rfl) mt_194 rfl rfl rfl e16 ?_
      obtain ⟨n17, e18, e⟩ := jbind e
      refine ey_new (cd_194 rfl) mt_194 rfl rfl jdf_6 e18 ?_
      refine ey_dup (cd_194 rfl) rfl ?_
      obtain ⟨h19, e20, e⟩ := jbind e
      refine ey_ci (s0 := [jR (some n17.1), jR (some n17.1), jI v15, jR r13]) (s1 := [jR (some n17.1), jI v15, jR r13]) (st' := [jR (some n17.1), jI v15, jR r13]) (cd_194 rfl) mt_194 mt_94 rfl (by decide) rfl rfl (jsml_s rfl) rfl (ok_94 e20) ?_
      obtain ⟨a21, e22, e⟩ := jbind e
      refine ey_rs (s0 := [jR (some n17.1), jI v15, jR r13]) (s1 := [jR (some n17.1), jI v15, jR (some a21)]) (by rw [e22]) ?_
      obtain ⟨h23, e24, e⟩ := jbind e
      refine ey_aast (cd_194 rfl) (by decide) e24 ?_
      exact jk_194_b48 e (jlf (jla 0 [jR (some this)])) rfl
    · rw [if_neg q12] at e
      obtain ⟨w35, w35e⟩ := Option.ne_none_iff_exists'.mp q12
      refine ey_rs (s0 := [jR r10]) (s1 := [jR (some w35)]) (by rw [w35e]) ?_
      refine ey_ifnonnull_s (cd_194 rfl) rfl ?_
      exact jk_194_b48 e (jlf (jla 0 [jR (some this)])) rfl
  · rw [if_neg q3] at e
    refine ey_nlt (cd_194 rfl) rfl rfl (show jw 60 = 60 from by decide) q3 ?_
    obtain ⟨u36, e37, e⟩ := jbind e
    cases e
    exact ey_throw (st := []) (f := (1, 173, 451, 177, 1)) (cd_194 rfl) mt_194 rfl rfl rfl (j6_s e37) (jsml_s rfl)
theorem cd_140 {pc : Nat} {i : Instr × Nat} (h : mm_lk mm_c140 pc = some i) : mm_cd 140 pc = some i := h
theorem mt_140 : mm_MT 140 = (11, 7, some .int, 5, 0, []) := rfl
set_option maxRecDepth 100000 in
theorem jk_140_b14 {L : Nat} {xs : Nat → Int32} {this : Nat}  {h : jH} {o : ((Int ⊕ Nat) × jH)} (e : jd_140_b14 this  h = some o) : ∀ lv : jL, ey (mm_xt L xs) 2 140 14 lv [] h (jres_i o) := by
  intro lv 
  unfold jd_140_b14 at e
  obtain ⟨u2, e3, e⟩ := jbind e
  cases e
  exact ey_throw (st := []) (f := (0, 85, 87, 89, 0)) (cd_140 rfl) mt_140 rfl rfl rfl (j6_s e3) (jsml_s rfl)
set_option maxRecDepth 100000 in
theorem ok_140 {L : Nat} {xs : Nat → Int32} {this : Nat} {p0 : Int} {p1 : Int} {p2 : Int} {p3 : Int} {p4 : Int} {h : jH} {o : ((Int ⊕ Nat) × jH)} (e : jd_140 this p0 p1 p2 p3 p4 h = some o) : mm_Runs (mm_xt L xs) 3 140 ([jR (some this), jI p0, jI p1, jI p2, jI p3, jI p4].map jcv) (jaH h) (jres_i o) := by
  refine ey_run0 _ mt_140 (jsl_s rfl) ?_
  unfold jd_140 at e
  refine ey_iload_n (cd_140 rfl) rfl ?_
  refine ey_cs (s0 := [jI p0]) (s1 := []) (st' := [jI (jd_182 p0)]) (cd_140 rfl) mt_140 mt_182 rfl (by decide) rfl rfl (jsml_s rfl) rfl (mm_Runs.up (d := 1) (by decide) (ok_182 )) ?_
  by_cases q1 : (jw (jd_182 p0)) = 0
  · rw [if_pos q1] at e
    refine ey_zeq (cd_140 rfl) rfl rfl q1 ?_
    exact jk_140_b14 e (jlf (jla 0 [jR (some this), jI p0, jI p1, jI p2, jI p3, jI p4])) 
  · rw [if_neg q1] at e
    refine ey_yeq (cd_140 rfl) rfl rfl q1 ?_
    refine ey_iload_n (cd_140 rfl) rfl ?_
    refine ey_cs (s0 := [jI p1]) (s1 := []) (st' := [jI (jd_182 p1)]) (cd_140 rfl) mt_140 mt_182 rfl (by decide) rfl rfl (jsml_s rfl) rfl (mm_Runs.up (d := 1) (by decide) (ok_182 )) ?_
    by_cases q4 : (jw (jd_182 p1)) = 0
    · rw [if_pos q4] at e
      refine ey_yne (cd_140 rfl) rfl rfl (fun w => w q4) ?_
      exact jk_140_b14 e (jlf (jla 0 [jR (some this), jI p0, jI p1, jI p2, jI p3, jI p4])) 
    · rw [if_neg q4] at e
      refine ey_zne (cd_140 rfl) rfl rfl q4 ?_
      refine ey_iload_n (cd_140 rfl) rfl ?_
      rcases jtb_c e with ⟨v7, h9, e6, e⟩ | ⟨E8, h9, e6, e⟩
      rotate_left
      · cases e
        exact ey_csX (s0 := [jI p2]) (s1 := []) (cd_140 rfl) mt_140 rfl mt_184 rfl rfl rfl (jsml_s rfl) (mm_Runs.up (d := 1) (by decide) (ok_184 e6))
      refine ey_cs (s0 := [jI p2]) (s1 := []) (st' := []) (cd_140 rfl) mt_140 mt_184 rfl (by decide) rfl rfl (jsml_s rfl) rfl (mm_Runs.up (d := 1) (by decide) (ok_184 e6)) ?_
      refine ey_iload (cd_140 rfl) rfl ?_
      rcases jtb_c e with ⟨v12, h14, e11, e⟩ | ⟨E13, h14, e11, e⟩
      rotate_left
      · cases e
        exact ey_csX (s0 := [jI p3]) (s1 := []) (cd_140 rfl) mt_140 rfl mt_184 rfl rfl rfl (jsml_s rfl) (mm_Runs.up (d := 1) (by decide) (ok_184 e11))
      refine ey_cs (s0 := [jI p3]) (s1 := []) (st' := []) (cd_140 rfl) mt_140 mt_184 rfl (by decide) rfl rfl (jsml_s rfl) rfl (mm_Runs.up (d := 1) (by decide) (ok_184 e11)) ?_
      refine ey_iload (cd_140 rfl) rfl ?_
      rcases jtb_c e with ⟨v17, h19, e16, e⟩ | ⟨E18, h19, e16, e⟩
      rotate_left
      · cases e
        exact ey_csX (s0 := [jI p4]) (s1 := []) (cd_140 rfl) mt_140 rfl mt_184 rfl rfl rfl (jsml_s rfl) (mm_Runs.up (d := 1) (by decide) (ok_184 e16))
      refine ey_cs (s0 := [jI p4]) (s1 := []) (st' := []) (cd_140 rfl) mt_140 mt_184 rfl (by decide) rfl rfl (jsml_s rfl) rfl (mm_Runs.up (d := 1) (by decide) (ok_184 e16)) ?_
      refine ey_aload_n (cd_140 rfl) rfl ?_
      obtain ⟨u20, e21, e⟩ := jbind e
      rcases jtb_c e with ⟨v24, h26, e23, e⟩ | ⟨E25, h26, e23, e⟩
      rotate_left
      · cases e
        exact ey_cvX (s0 := [jR (some this)]) (s1 := []) (cd_140 rfl) mt_140 rfl mt_194 rfl rfl rfl (jck_s e21) rfl (jsml_s rfl) (ok_194 e23)
      refine ey_cv (s0 := [jR (some this)]) (s1 := []) (st' := [jR (some v24)]) (cd_140 rfl) mt_140 mt_194 rfl rfl rfl (jck_s e21) rfl (jsml_s rfl) rfl (ok_194 e23) ?_
      refine ey_astore (cd_140 rfl) mt_140 rfl ?_
      refine ey_aload (cd_140 rfl) rfl ?_
      refine ey_iload_n (cd_140 rfl) rfl ?_
      refine ey_iload_n (cd_140 rfl) rfl ?_
      obtain ⟨u27, e28, e⟩ := jbind e
      obtain ⟨h29, e30, e⟩ := jbind e
      refine ey_cv (s0 := [jI p1, jI p0, jR (some v24)]) (s1 := []) (st' := []) (cd_140 rfl) mt_140 mt_95 rfl rfl rfl (jck_s e28) rfl (jsml_s rfl) rfl (mm_Runs.up (d := 1) (by decide) (ok_95 e30)) ?_
      refine ey_aload (cd_140 rfl) rfl ?_
      refine ey_iconst (cd_140 rfl) ?_
      refine ey_iload_n (cd_140 rfl) rfl ?_
      obtain ⟨u31, e32, e⟩ := jbind e
      obtain ⟨h33, e34, e⟩ := jbind e
      refine ey_cv (s0 := [jI p2, jI 0, jR (some v24)]) (s1 := []) (st' := []) (cd_140 rfl) mt_140 mt_101 rfl rfl rfl (jck_s e32) rfl (jsml_s rfl) rfl (ok_101 e34) ?_
      refine ey_aload (cd_140 rfl) rfl ?_
      refine ey_iconst (cd_140 rfl) ?_
      refine ey_iload (cd_140 rfl) rfl ?_
      obtain ⟨u35, e36, e⟩ := jbind e
      obtain ⟨h37, e38, e⟩ := jbind e
      refine ey_cv (s0 := [jI p3, jI 1, jR (some v24)]) (s1 := []) (st' := []) (cd_140 rfl) mt_140 mt_101 rfl rfl rfl (jck_s e36) rfl (jsml_s rfl) rfl (ok_101 e38) ?_
      refine ey_aload (cd_140 rfl) rfl ?_
      refine ey_iconst (cd_140 rfl) ?_
      refine ey_iload (cd_140 rfl) (jup_pi (lv := (jlf (jla 0 [jR (some this), jI p0, jI p1, jI p2, jI p3, jI p4]))) (j := 5) (v := jR (some v24)) (z := p4) rfl) ?_
      obtain ⟨u39, e40, e⟩ := jbind e
      obtain ⟨h41, e42, e⟩ := jbind e
      refine ey_cv (s0 := [jI p4, jI 2, jR (some v24)]) (s1 := []) (st' := []) (cd_140 rfl) mt_140 mt_101 rfl rfl rfl (jck_s e40) rfl (jsml_s rfl) rfl (ok_101 e42) ?_
      refine ey_aload_n (cd_140 rfl) rfl ?_
      refine ey_dup (cd_140 rfl) rfl ?_
      obtain ⟨v43, e44, e⟩ := jbind e
      refine ey_getf_i (cd_140 rfl) mt_140 rfl rfl rfl e44 ?_
      refine ey_dupx1 (cd_140 rfl) rfl rfl ?_
      refine ey_iconst (cd_140 rfl) ?_
      refine ey_iadd (cd_140 rfl) ?_
      obtain ⟨h45, e46, e⟩ := jbind e
      refine ey_putf_i (cd_140 rfl) mt_140 rfl rfl rfl e46 ?_
      cases e
      exact ey_reti (cd_140 rfl) mt_140 rfl
theorem cd_186 {pc : Nat} {i : Instr × Nat} (h : mm_lk mm_c186 pc = some i) : mm_cd 186 pc = some i := h
theorem mt_186 : mm_MT 186 = (11, 1, none, 1, 1, []) := rfl
set_option maxRecDepth 100000 in
theorem jk_186_b9 {L : Nat} {xs : Nat → Int32}  {h : jH} {o : ((Unit ⊕ Nat) × jH)} (e : jd_186_b9  h = some o) : ∀ lv : jL, ey (mm_xt L xs) 0 186 9 lv [] h (jres_v o) := by
  intro lv 
  unfold jd_186_b9 at e
  obtain ⟨u2, e3, e⟩ := jbind e
  cases e
  exact ey_throw (st := []) (f := (2, 178, 436, 182, 1)) (cd_186 rfl) mt_186 rfl rfl rfl (j6_s e3) (jsml_s rfl)
set_option maxRecDepth 100000 in
theorem ok_186 {L : Nat} {xs : Nat → Int32} {p0 : Int} {h : jH} {o : ((Unit ⊕ Nat) × jH)} (e : jd_186 p0 h = some o) : mm_Runs (mm_xt L xs) 1 186 ([jI p0].map jcv) (jaH h) (jres_v o) := by
  refine ey_run0 _ mt_186 (jsl_s rfl) ?_
  unfold jd_186 at e
  refine ey_iload_n (cd_186 rfl) rfl ?_
  by_cases q1 : (jw p0) < 0
  · rw [if_pos q1] at e
    refine ey_zlt (cd_186 rfl) rfl rfl q1 ?_
    exact jk_186_b9 e (jlf (jla 0 [jI p0])) 
  · rw [if_neg q1] at e
    refine ey_ylt (cd_186 rfl) rfl rfl q1 ?_
    refine ey_iload_n (cd_186 rfl) rfl ?_
    refine ey_iconst (cd_186 rfl) ?_
    by_cases q4 : (jw p0) ≤ 2
    · rw [if_pos q4] at e
      refine ey_cle (cd_186 rfl) rfl rfl (show jw 2 = 2 from by decide) q4 ?_
      cases e
      exact ey_retv (cd_186 rfl) mt_186 rfl
    · rw [if_neg q4] at e
      refine ey_nle (cd_186 rfl) rfl rfl (show jw 2 = 2 from by decide) q4 ?_
      exact jk_186_b9 e (jlf (jla 0 [jI p0])) 
theorem cd_193 {pc : Nat} {i : Instr × Nat} (h : mm_lk mm_c193 pc = some i) : mm_cd 193 pc = some i := h
theorem mt_193 : mm_MT 193 = (11, 2, some (.object RX6), 1, 0, []) := rfl
set_option maxRecDepth 100000 in
theorem jk_193_b12 {L : Nat} {xs : Nat → Int32} {this : Nat}  {h : jH} {o : ((Nat ⊕ Nat) × jH)} (e : jd_193_b12 this  h = some o) : ∀ lv : jL, ey (mm_xt L xs) 0 193 12 lv [] h (jres_a o) := by
  intro lv 
  unfold jd_193_b12 at e
  obtain ⟨u2, e3, e⟩ := jbind e
  cases e
  exact ey_throw (st := []) (f := (2, 178, 438, 182, 1)) (cd_193 rfl) mt_193 rfl rfl rfl (j6_s e3) (jsml_s rfl)
set_option maxRecDepth 100000 in
theorem ok_193 {L : Nat} {xs : Nat → Int32} {this : Nat} {p0 : Int} {h : jH} {o : ((Nat ⊕ Nat) × jH)} (e : jd_193 this p0 h = some o) : mm_Runs (mm_xt L xs) 1 193 ([jR (some this), jI p0].map jcv) (jaH h) (jres_a o) := by
  refine ey_run0 _ mt_193 (jsl_s rfl) ?_
  unfold jd_193 at e
  refine ey_iload_n (cd_193 rfl) rfl ?_
  by_cases q1 : (jw p0) < 0
  · rw [if_pos q1] at e
    refine ey_zlt (cd_193 rfl) rfl rfl q1 ?_
    exact jk_193_b12 e (jlf (jla 0 [jR (some this), jI p0])) 
  · rw [if_neg q1] at e
    refine ey_ylt (cd_193 rfl) rfl rfl q1 ?_
    refine ey_iload_n (cd_193 rfl) rfl ?_
    refine ey_aload_n (cd_193 rfl) rfl ?_
    obtain ⟨v4, e5, e⟩ := jbind e
    refine ey_getf_i (cd_193 rfl) mt_193 rfl rfl rfl e5 ?_
    by_cases q6 : (jw p0) < (jw v4)
    · rw [if_pos q6] at e
      refine ey_clt (cd_193 rfl) rfl rfl rfl q6 ?_
      refine ey_aload_n (cd_193 rfl) rfl ?_
      obtain ⟨r7, e8, e⟩ := jbind e
      refine ey_getf_r (cd_193 rfl) mt_193 rfl rfl rfl e8 ?_
      refine ey_iload_n (cd_193 rfl) rfl ?_
      obtain ⟨a9, e10, e⟩ := jbind e
      refine ey_rs (s0 := [jI p0, jR r7]) (s1 := [jI p0, jR (some a9)]) (by rw [e10]) ?_
      obtain ⟨r11, e12, e⟩ := jbind e
      refine ey_aald (cd_193 rfl) (by decide) e12 ?_
      obtain ⟨a13, e14, e⟩ := jbind e
      refine ey_rs (s0 := [jR r11]) (s1 := [jR (some a13)]) (by rw [e14]) ?_
      cases e
      exact ey_reta (cd_193 rfl) mt_193 rfl
    · rw [if_neg q6] at e
      refine ey_nlt (cd_193 rfl) rfl rfl rfl q6 ?_
      exact jk_193_b12 e (jlf (jla 0 [jR (some this), jI p0])) 
theorem cd_141 {pc : Nat} {i : Instr × Nat} (h : mm_lk mm_c141 pc = some i) : mm_cd 141 pc = some i := h
theorem mt_141 : mm_MT 141 = (11, 17, some .int, 7, 0, []) := rfl
set_option maxRecDepth 100000 in
theorem jk_141_b26 {L : Nat} {xs : Nat → Int32} {this : Nat}  {h : jH} {o : ((Int ⊕ Nat) × jH)} (e : jd_141_b26 this  h = some o) : ∀ lv : jL, ey (mm_xt L xs) 1 141 26 lv [] h (jres_i o) := by
  intro lv 
  unfold jd_141_b26 at e
  obtain ⟨u19, e20, e⟩ := jbind e
  cases e
  exact ey_throw (st := []) (f := (0, 85, 114, 89, 0)) (cd_141 rfl) mt_141 rfl rfl rfl (j6_s e20) (jsml_s rfl)
set_option maxRecDepth 100000 in
theorem jk_141_s108 {L : Nat} {xs : Nat → Int32} {this : Nat} {x2 : Int} {x3 : Int} {x7 : Int} {x8 : Option Nat} {x9 : Int} {x11 : Int} {x13 : Int} {x15 : Int} {x14 : Int} {x16 : Int} {h : jH} {o : ((Int × Int × jH) ⊕ (Int × jH))} {r : mm_R} (e : jd_141_s108 this x2 x3 x7 x8 x9 x11 x13 x15 x14 x16 h = some o) (K : jsm (fun s => (∀ lv : jL, lv 2 = some (jI x2) → lv 3 = some (jI x3) → lv 7 = some (jI x7) → lv 8 = some (jR x8) → lv 9 = some (jJ x9) → lv 11 = some (jJ x11) → lv 13 = some (jI x13) → lv 14 = some (jI s.1) → lv 15 = some (jI x15) → lv 16 = some (jI s.2.1) → ey (mm_xt L xs) 1 141 108 lv [] s.2.2 r)) (fun x => (∀ lv : jL, lv 2 = some (jI x2) → lv 3 = some (jI x3) → lv 7 = some (jI x7) → lv 8 = some (jR x8) → lv 9 = some (jJ x9) → lv 11 = some (jJ x11) → lv 13 = some (jI x13) → lv 14 = some (jI x.1) → lv 15 = some (jI x15) → ey (mm_xt L xs) 1 141 149 lv [] x.2 r)) o) : ∀ lv : jL, lv 2 = some (jI x2) → lv 3 = some (jI x3) → lv 7 = some (jI x7) → lv 8 = some (jR x8) → lv 9 = some (jJ x9) → lv 11 = some (jJ x11) → lv 13 = some (jI x13) → lv 14 = some (jI x14) → lv 15 = some (jI x15) → lv 16 = some (jI x16) → ey (mm_xt L xs) 1 141 108 lv [] h r := by
  intro lv f2 f3 f7 f8 f9 f11 f13 f14 f15 f16
  unfold jd_141_s108 at e
  refine ey_iload (cd_141 rfl) f16 ?_
  refine ey_i2l (cd_141 rfl) ?_
  refine ey_lload (cd_141 rfl) f9 ?_
  refine ey_lcmp (cd_141 rfl) ?_
  by_cases q39 : (jwl x9) ≤ (jw x16)
  · rw [if_pos q39] at e
    refine ey_zge (cd_141 rfl) rfl rfl ((jlc_ge (jwl_jw _) rfl).mpr q39) ?_
    cases e
    exact K lv f2 f3 f7 f8 f9 f11 f13 f14 f15
  · rw [if_neg q39] at e
    refine ey_yge (cd_141 rfl) rfl rfl (fun w => q39 ((jlc_ge (jwl_jw _) rfl).mp w)) ?_
    refine ey_aload (cd_141 rfl) f8 ?_
    obtain ⟨a40, e41, e⟩ := jbind e
    refine ey_rs (s0 := [jR x8]) (s1 := [jR (some a40)]) (by rw [e41]) ?_
    obtain ⟨r42, e43, e⟩ := jbind e
    refine ey_getf_r (cd_141 rfl) mt_141 rfl rfl rfl e43 ?_
    refine ey_iload (cd_141 rfl) f13 ?_
    refine ey_iload (cd_141 rfl) f15 ?_
    refine ey_aload (cd_141 rfl) f8 ?_
    refine ey_iload_n (cd_141 rfl) f2 ?_
    obtain ⟨a44, e45, e⟩ := jbind e
    refine ey_rs (s0 := [jI x2, jR x8, jI x15, jI x13, jR r42]) (s1 := [jI x2, jR (some a44), jI x15, jI x13, jR r42]) (by rw [e45]) ?_
    obtain ⟨u46, e47, e⟩ := jbind e
    obtain ⟨v48, e49, e⟩ := jbind e
    refine ey_cv (s0 := [jI x2, jR (some a44), jI x15, jI x13, jR r42]) (s1 := [jI x15, jI x13, jR r42]) (st' := [jI v48, jI x15, jI x13, jR r42]) (cd_141 rfl) mt_141 mt_96 rfl rfl rfl (jck_s e47) rfl (jsml_s rfl) rfl (ok_96 e49) ?_
    refine ey_imul (cd_141 rfl) ?_
    refine ey_iadd (cd_141 rfl) ?_
    refine ey_iload (cd_141 rfl) f16 ?_
    refine ey_iadd (cd_141 rfl) ?_
    refine ey_iload (cd_141 rfl) f7 ?_
    obtain ⟨a50, e51, e⟩ := jbind e
    refine ey_rs (s0 := [jI x7, jI ((x13 + (x15 * v48)) + x16), jR r42]) (s1 := [jI x7, jI ((x13 + (x15 * v48)) + x16), jR (some a50)]) (by rw [e51]) ?_
    obtain ⟨h52, e53, e⟩ := jbind e
    refine ey_iast (cd_141 rfl) e53 ?_
    refine ey_iinc (cd_141 rfl) mt_141 rfl f14 ?_
    refine ey_iinc (cd_141 rfl) mt_141 rfl f16 ?_
    refine ey_goto (cd_141 rfl) rfl ?_
    cases e
    exact K (jup (jup lv 14 (jI (x14 + 1))) 16 (jI (x16 + 1))) f2 f3 f7 f8 f9 f11 (jup_o rfl (jup_pi (lv := lv) (j := 13) (v := jI (x14 + 1)) (z := x13) f13)) rfl (jup_pi (lv := (jup lv 14 (jI (x14 + 1)))) (j := 15) (v := jI (x16 + 1)) (z := x15) f15) rfl
theorem jk_141_l108 {L : Nat} {xs : Nat → Int32} {this : Nat} {x2 : Int} {x3 : Int} {x7 : Int} {x8 : Option Nat} {x9 : Int} {x11 : Int} {x13 : Int} {x15 : Int} {x14 : Int} {x16 : Int} {h : jH} {x : (Int × jH)} {r : mm_R} (e : jd_141_l108 this x2 x3 x7 x8 x9 x11 x13 x15 x14 x16 h = some x) (K : (∀ lv : jL, lv 2 = some (jI x2) → lv 3 = some (jI x3) → lv 7 = some (jI x7) → lv 8 = some (jR x8) → lv 9 = some (jJ x9) → lv 11 = some (jJ x11) → lv 13 = some (jI x13) → lv 14 = some (jI x.1) → lv 15 = some (jI x15) → ey (mm_xt L xs) 1 141 149 lv [] x.2 r)) : ∀ lv : jL, lv 2 = some (jI x2) → lv 3 = some (jI x3) → lv 7 = some (jI x7) → lv 8 = some (jR x8) → lv 9 = some (jJ x9) → lv 11 = some (jJ x11) → lv 13 = some (jI x13) → lv 14 = some (jI x14) → lv 15 = some (jI x15) → lv 16 = some (jI x16) → ey (mm_xt L xs) 1 141 108 lv [] h r := by
  unfold jd_141_l108 at e
  exact jlp_ok2 (P := fun s => ∀ lv : jL, lv 2 = some (jI x2) → lv 3 = some (jI x3) → lv 7 = some (jI x7) → lv 8 = some (jR x8) → lv 9 = some (jJ x9) → lv 11 = some (jJ x11) → lv 13 = some (jI x13) → lv 14 = some (jI s.1) → lv 15 = some (jI x15) → lv 16 = some (jI s.2.1) → ey (mm_xt L xs) 1 141 108 lv [] s.2.2 r) (Q := fun x => (∀ lv : jL, lv 2 = some (jI x2) → lv 3 = some (jI x3) → lv 7 = some (jI x7) → lv 8 = some (jR x8) → lv 9 = some (jJ x9) → lv 11 = some (jJ x11) → lv 13 = some (jI x13) → lv 14 = some (jI x.1) → lv 15 = some (jI x15) → ey (mm_xt L xs) 1 141 149 lv [] x.2 r)) (fun s q hq hk => jk_141_s108 hq hk) jfu _ x e K
set_option maxRecDepth 100000 in
theorem jk_141_s92 {L : Nat} {xs : Nat → Int32} {this : Nat} {x2 : Int} {x3 : Int} {x7 : Int} {x8 : Option Nat} {x9 : Int} {x11 : Int} {x13 : Int} {x14 : Int} {x15 : Int} {h : jH} {o : ((Int × Int × jH) ⊕ (Int × jH))} {r : mm_R} (e : jd_141_s92 this x2 x3 x7 x8 x9 x11 x13 x14 x15 h = some o) (K : jsm (fun s => (∀ lv : jL, lv 2 = some (jI x2) → lv 3 = some (jI x3) → lv 7 = some (jI x7) → lv 8 = some (jR x8) → lv 9 = some (jJ x9) → lv 11 = some (jJ x11) → lv 13 = some (jI x13) → lv 14 = some (jI s.1) → lv 15 = some (jI s.2.1) → ey (mm_xt L xs) 1 141 92 lv [] s.2.2 r)) (fun x => (∀ lv : jL, lv 14 = some (jI x.1) → ey (mm_xt L xs) 1 141 155 lv [] x.2 r)) o) : ∀ lv : jL, lv 2 = some (jI x2) → lv 3 = some (jI x3) → lv 7 = some (jI x7) → lv 8 = some (jR x8) → lv 9 = some (jJ x9) → lv 11 = some (jJ x11) → lv 13 = some (jI x13) → lv 14 = some (jI x14) → lv 15 = some (jI x15) → ey (mm_xt L xs) 1 141 92 lv [] h r := by
  intro lv f2 f3 f7 f8 f9 f11 f13 f14 f15
  unfold jd_141_s92 at e
  refine ey_iload (cd_141 rfl) f15 ?_
  refine ey_i2l (cd_141 rfl) ?_
  refine ey_lload (cd_141 rfl) f11 ?_
  refine ey_lcmp (cd_141 rfl) ?_
  by_cases q36 : (jwl x11) ≤ (jw x15)
  · rw [if_pos q36] at e
    refine ey_zge (cd_141 rfl) rfl rfl ((jlc_ge (jwl_jw _) rfl).mpr q36) ?_
    cases e
    exact K lv f14
  · rw [if_neg q36] at e
    refine ey_yge (cd_141 rfl) rfl rfl (fun w => q36 ((jlc_ge (jwl_jw _) rfl).mp w)) ?_
    refine ey_iload_n (cd_141 rfl) f3 ?_
    refine ey_iconst (cd_141 rfl) ?_
    refine ey_max (cd_141 rfl) mt_141 rfl (jsml_s rfl) ?_
    obtain ⟨z37, e38, e⟩ := jbind e
    refine ey_rs (s0 := [jI (if jw x3 < jw 0 then 0 else x3)]) (s1 := [jI z37]) (by rw [show (if jw x3 < jw 0 then 0 else x3) = z37 from Option.some.inj e38]) ?_
    refine ey_istore (cd_141 rfl) mt_141 rfl ?_
    obtain ⟨x54, e55, e⟩ := jbind e
    refine jk_141_l108 e55 ?_ (jup lv 16 (jI z37)) f2 f3 f7 f8 f9 f11 f13 f14 (jup_pi (lv := lv) (j := 15) (v := jI z37) (z := x15) f15) rfl
    intro lv g2 g3 g7 g8 g9 g11 g13 g14 g15
    refine ey_iinc (cd_141 rfl) mt_141 rfl g15 ?_
    refine ey_goto (cd_141 rfl) rfl ?_
    cases e
    exact K (jup lv 15 (jI (x15 + 1))) g2 g3 g7 g8 g9 g11 g13 (jup_pi (lv := lv) (j := 14) (v := jI (x15 + 1)) (z := x54.1) g14) rfl
theorem jk_141_l92 {L : Nat} {xs : Nat → Int32} {this : Nat} {x2 : Int} {x3 : Int} {x7 : Int} {x8 : Option Nat} {x9 : Int} {x11 : Int} {x13 : Int} {x14 : Int} {x15 : Int} {h : jH} {x : (Int × jH)} {r : mm_R} (e : jd_141_l92 this x2 x3 x7 x8 x9 x11 x13 x14 x15 h = some x) (K : (∀ lv : jL, lv 14 = some (jI x.1) → ey (mm_xt L xs) 1 141 155 lv [] x.2 r)) : ∀ lv : jL, lv 2 = some (jI x2) → lv 3 = some (jI x3) → lv 7 = some (jI x7) → lv 8 = some (jR x8) → lv 9 = some (jJ x9) → lv 11 = some (jJ x11) → lv 13 = some (jI x13) → lv 14 = some (jI x14) → lv 15 = some (jI x15) → ey (mm_xt L xs) 1 141 92 lv [] h r := by
  unfold jd_141_l92 at e
  exact jlp_ok2 (P := fun s => ∀ lv : jL, lv 2 = some (jI x2) → lv 3 = some (jI x3) → lv 7 = some (jI x7) → lv 8 = some (jR x8) → lv 9 = some (jJ x9) → lv 11 = some (jJ x11) → lv 13 = some (jI x13) → lv 14 = some (jI s.1) → lv 15 = some (jI s.2.1) → ey (mm_xt L xs) 1 141 92 lv [] s.2.2 r) (Q := fun x => (∀ lv : jL, lv 14 = some (jI x.1) → ey (mm_xt L xs) 1 141 155 lv [] x.2 r)) (fun s q hq hk => jk_141_s92 hq hk) jfu _ x e K
set_option maxRecDepth 100000 in
theorem ok_141 {L : Nat} {xs : Nat → Int32} {this : Nat} {p0 : Int} {p1 : Int} {p2 : Int} {p3 : Int} {p4 : Int} {p5 : Int} {p6 : Int} {h : jH} {o : ((Int ⊕ Nat) × jH)} (e : jd_141 this p0 p1 p2 p3 p4 p5 p6 h = some o) : mm_Runs (mm_xt L xs) 2 141 ([jR (some this), jI p0, jI p1, jI p2, jI p3, jI p4, jI p5, jI p6].map jcv) (jaH h) (jres_i o) := by
  refine ey_run0 _ mt_141 (jsl_s rfl) ?_
  unfold jd_141 at e
  refine ey_aload_n (cd_141 rfl) rfl ?_
  refine ey_iload_n (cd_141 rfl) rfl ?_
  obtain ⟨u1, e2, e⟩ := jbind e
  rcases jtb_c e with ⟨v5, h7, e4, e⟩ | ⟨E6, h7, e4, e⟩
  rotate_left
  · cases e
    exact ey_cvX (s0 := [jI p0, jR (some this)]) (s1 := []) (cd_141 rfl) mt_141 rfl mt_193 rfl rfl rfl (jck_s e2) rfl (jsml_s rfl) (ok_193 e4)
  refine ey_cv (s0 := [jI p0, jR (some this)]) (s1 := []) (st' := [jR (some v5)]) (cd_141 rfl) mt_141 mt_193 rfl rfl rfl (jck_s e2) rfl (jsml_s rfl) rfl (ok_193 e4) ?_
  refine ey_astore (cd_141 rfl) mt_141 rfl ?_
  refine ey_iload_n (cd_141 rfl) rfl ?_
  rcases jtb_c e with ⟨v10, h12, e9, e⟩ | ⟨E11, h12, e9, e⟩
  rotate_left
  · cases e
    exact ey_csX (s0 := [jI p1]) (s1 := []) (cd_141 rfl) mt_141 rfl mt_186 rfl rfl rfl (jsml_s rfl) (ok_186 e9)
  refine ey_cs (s0 := [jI p1]) (s1 := []) (st' := []) (cd_141 rfl) mt_141 mt_186 rfl (by decide) rfl rfl (jsml_s rfl) rfl (ok_186 e9) ?_
  refine ey_iload (cd_141 rfl) (jup_pi (lv := (jlf (jla 0 [jR (some this), jI p0, jI p1, jI p2, jI p3, jI p4, jI p5, jI p6]))) (j := 7) (v := jR (some v5)) (z := p6) rfl) ?_
  rcases jtb_c e with ⟨v15, h17, e14, e⟩ | ⟨E16, h17, e14, e⟩
  rotate_left
  · cases e
    exact ey_csX (s0 := [jI p6]) (s1 := []) (cd_141 rfl) mt_141 rfl mt_184 rfl rfl rfl (jsml_s rfl) (ok_184 e14)
  refine ey_cs (s0 := [jI p6]) (s1 := []) (st' := []) (cd_141 rfl) mt_141 mt_184 rfl (by decide) rfl rfl (jsml_s rfl) rfl (ok_184 e14) ?_
  refine ey_iload (cd_141 rfl) rfl ?_
  by_cases q18 : (jw p4) < 0
  · rw [if_pos q18] at e
    refine ey_zlt (cd_141 rfl) rfl rfl q18 ?_
    exact jk_141_b26 e (jup (jlf (jla 0 [jR (some this), jI p0, jI p1, jI p2, jI p3, jI p4, jI p5, jI p6])) 8 (jR (some v5))) 
  · rw [if_neg q18] at e
    refine ey_ylt (cd_141 rfl) rfl rfl q18 ?_
    refine ey_iload (cd_141 rfl) rfl ?_
    by_cases q21 : 0 ≤ (jw p5)
    · rw [if_pos q21] at e
      refine ey_zge (cd_141 rfl) rfl rfl q21 ?_
      refine ey_iload_n (cd_141 rfl) rfl ?_
      refine ey_i2l (cd_141 rfl) ?_
      refine ey_iload (cd_141 rfl) rfl ?_
      refine ey_i2l (cd_141 rfl) ?_
      refine ey_ladd (cd_141 rfl) ?_
      refine ey_aload (cd_141 rfl) rfl ?_
      refine ey_iload_n (cd_141 rfl) rfl ?_
      obtain ⟨u22, e23, e⟩ := jbind e
      obtain ⟨v24, e25, e⟩ := jbind e
      refine ey_cv (s0 := [jI p1, jR (some v5), jJ ((jw p2) + (jw p4))]) (s1 := [jJ ((jw p2) + (jw p4))]) (st' := [jI v24, jJ ((jw p2) + (jw p4))]) (cd_141 rfl) mt_141 mt_96 rfl rfl rfl (jck_s e23) rfl (jsml_s rfl) rfl (ok_96 e25) ?_
      refine ey_i2l (cd_141 rfl) ?_
      refine ey_minl (cd_141 rfl) mt_141 rfl (jsml_s rfl) ?_
      refine ey_lstore (cd_141 rfl) mt_141 rfl ?_
      refine ey_iload (cd_141 rfl) rfl ?_
      refine ey_i2l (cd_141 rfl) ?_
      refine ey_iload (cd_141 rfl) rfl ?_
      refine ey_i2l (cd_141 rfl) ?_
      refine ey_ladd (cd_141 rfl) ?_
      refine ey_aload (cd_141 rfl) (jup2_pr (lv := (jup (jlf (jla 0 [jR (some this), jI p0, jI p1, jI p2, jI p3, jI p4, jI p5, jI p6])) 8 (jR (some v5)))) (j := 8) (v := jJ (if jwl (jw v24) < jwl ((jw p2) + (jw p4)) then (jw v24) else ((jw p2) + (jw p4)))) (z := (some v5)) rfl) ?_
      refine ey_iload_n (cd_141 rfl) rfl ?_
      obtain ⟨u26, e27, e⟩ := jbind e
      obtain ⟨v28, e29, e⟩ := jbind e
      refine ey_cv (s0 := [jI p1, jR (some v5), jJ ((jw p3) + (jw p5))]) (s1 := [jJ ((jw p3) + (jw p5))]) (st' := [jI v28, jJ ((jw p3) + (jw p5))]) (cd_141 rfl) mt_141 mt_97 rfl rfl rfl (jck_s e27) rfl (jsml_s rfl) rfl (ok_97 e29) ?_
      refine ey_i2l (cd_141 rfl) ?_
      refine ey_minl (cd_141 rfl) mt_141 rfl (jsml_s rfl) ?_
      refine ey_lstore (cd_141 rfl) mt_141 rfl ?_
      refine ey_aload (cd_141 rfl) (jup2_o rfl (jup2_pr (lv := (jup (jlf (jla 0 [jR (some this), jI p0, jI p1, jI p2, jI p3, jI p4, jI p5, jI p6])) 8 (jR (some v5)))) (j := 8) (v := jJ (if jwl (jw v24) < jwl ((jw p2) + (jw p4)) then (jw v24) else ((jw p2) + (jw p4)))) (z := (some v5)) rfl)) ?_
      refine ey_iload_n (cd_141 rfl) rfl ?_
      obtain ⟨u30, e31, e⟩ := jbind e
      obtain ⟨v32, e33, e⟩ := jbind e
      refine ey_cv (s0 := [jI p1, jR (some v5)]) (s1 := []) (st' := [jI v32]) (cd_141 rfl) mt_141 mt_98 rfl rfl rfl (jck_s e31) rfl (jsml_s rfl) rfl (ok_98 e33) ?_
      refine ey_istore (cd_141 rfl) mt_141 rfl ?_
      refine ey_iconst (cd_141 rfl) ?_
      refine ey_istore (cd_141 rfl) mt_141 rfl ?_
      refine ey_iload (cd_141 rfl) rfl ?_
      refine ey_iconst (cd_141 rfl) ?_
      refine ey_max (cd_141 rfl) mt_141 rfl (jsml_s rfl) ?_
      obtain ⟨z34, e35, e⟩ := jbind e
      refine ey_rs (s0 := [jI (if jw p3 < jw 0 then 0 else p3)]) (s1 := [jI z34]) (by rw [show (if jw p3 < jw 0 then 0 else p3) = z34 from Option.some.inj e35]) ?_
      refine ey_istore (cd_141 rfl) mt_141 rfl ?_
      obtain ⟨x56, e57, e⟩ := jbind e
      refine jk_141_l92 e57 ?_ (jup (jup (jup (jup2 (jup2 (jup (jlf (jla 0 [jR (some this), jI p0, jI p1, jI p2, jI p3, jI p4, jI p5, jI p6])) 8 (jR (some v5))) 9 (jJ (if jwl (jw v24) < jwl ((jw p2) + (jw p4)) then (jw v24) else ((jw p2) + (jw p4))))) 11 (jJ (if jwl (jw v28) < jwl ((jw p3) + (jw p5)) then (jw v28) else ((jw p3) + (jw p5))))) 13 (jI v32)) 14 (jI 0)) 15 (jI z34)) rfl rfl (jup_o rfl (jup_o rfl (jup_o rfl (jup2_o rfl (jup2_o rfl (jup_pi (lv := (jlf (jla 0 [jR (some this), jI p0, jI p1, jI p2, jI p3, jI p4, jI p5, jI p6]))) (j := 7) (v := jR (some v5)) (z := p6) rfl)))))) (jup_o rfl (jup_o rfl (jup_o rfl (jup2_o rfl (jup2_pr (lv := (jup (jlf (jla 0 [jR (some this), jI p0, jI p1, jI p2, jI p3, jI p4, jI p5, jI p6])) 8 (jR (some v5)))) (j := 8) (v := jJ (if jwl (jw v24) < jwl ((jw p2) + (jw p4)) then (jw v24) else ((jw p2) + (jw p4)))) (z := (some v5)) rfl))))) rfl rfl (jup_o rfl (jup_pi (lv := (jup (jup2 (jup2 (jup (jlf (jla 0 [jR (some this), jI p0, jI p1, jI p2, jI p3, jI p4, jI p5, jI p6])) 8 (jR (some v5))) 9 (jJ (if jwl (jw v24) < jwl ((jw p2) + (jw p4)) then (jw v24) else ((jw p2) + (jw p4))))) 11 (jJ (if jwl (jw v28) < jwl ((jw p3) + (jw p5)) then (jw v28) else ((jw p3) + (jw p5))))) 13 (jI v32))) (j := 13) (v := jI 0) (z := v32) rfl)) (jup_pi (lv := (jup (jup (jup2 (jup2 (jup (jlf (jla 0 [jR (some this), jI p0, jI p1, jI p2, jI p3, jI p4, jI p5, jI p6])) 8 (jR (some v5))) 9 (jJ (if jwl (jw v24) < jwl ((jw p2) + (jw p4)) then (jw v24) else ((jw p2) + (jw p4))))) 11 (jJ (if jwl (jw v28) < jwl ((jw p3) + (jw p5)) then (jw v28) else ((jw p3) + (jw p5))))) 13 (jI v32)) 14 (jI 0))) (j := 14) (v := jI z34) (z := 0) rfl) rfl
      intro lv g14
      refine ey_iload (cd_141 rfl) g14 ?_
      cases e
      exact ey_reti (cd_141 rfl) mt_141 rfl
    · rw [if_neg q21] at e
      refine ey_yge (cd_141 rfl) rfl rfl q21 ?_
      exact jk_141_b26 e (jup (jlf (jla 0 [jR (some this), jI p0, jI p1, jI p2, jI p3, jI p4, jI p5, jI p6])) 8 (jR (some v5))) 
theorem cd_142 {pc : Nat} {i : Instr × Nat} (h : mm_lk mm_c142 pc = some i) : mm_cd 142 pc = some i := h
theorem mt_142 : mm_MT 142 = (11, 13, none, 4, 0, []) := rfl
set_option maxRecDepth 100000 in
theorem jk_142_b24 {L : Nat} {xs : Nat → Int32} {this : Nat}  {h : jH} {o : ((Unit ⊕ Nat) × jH)} (e : jd_142_b24 this  h = some o) : ∀ lv : jL, ey (mm_xt L xs) 1 142 24 lv [] h (jres_v o) := by
  intro lv 
  unfold jd_142_b24 at e
  obtain ⟨u14, e15, e⟩ := jbind e
  cases e
  exact ey_throw (st := []) (f := (0, 85, 139, 89, 0)) (cd_142 rfl) mt_142 rfl rfl rfl (j6_s e15) (jsml_s rfl)
set_option maxRecDepth 100000 in
theorem jk_142_s67 {L : Nat} {xs : Nat → Int32} {this : Nat} {x5 : Int} {x6 : Option Nat} {x10 : Int} {x7 : Int} {x11 : Int} {h : jH} {o : ((Int × Int × jH) ⊕ jH)} {r : mm_R} (e : jd_142_s67 this x5 x6 x10 x7 x11 h = some o) (K : jsm (fun s => (∀ lv : jL, lv 5 = some (jI x5) → lv 6 = some (jR x6) → lv 7 = some (jJ s.1) → lv 10 = some (jI x10) → lv 11 = some (jI s.2.1) → ey (mm_xt L xs) 1 142 67 lv [] s.2.2 r)) (fun x => (∀ lv : jL, ey (mm_xt L xs) 1 142 133 lv [] x r)) o) : ∀ lv : jL, lv 5 = some (jI x5) → lv 6 = some (jR x6) → lv 7 = some (jJ x7) → lv 10 = some (jI x10) → lv 11 = some (jI x11) → ey (mm_xt L xs) 1 142 67 lv [] h r := by
  intro lv f5 f6 f7 f10 f11
  unfold jd_142_s67 at e
  refine ey_iload (cd_142 rfl) f11 ?_
  refine ey_iload (cd_142 rfl) f10 ?_
  by_cases q29 : (jw x10) ≤ (jw x11)
  · rw [if_pos q29] at e
    refine ey_cge (cd_142 rfl) rfl rfl rfl q29 ?_
    cases e
    exact K lv 
  · rw [if_neg q29] at e
    refine ey_nge (cd_142 rfl) rfl rfl rfl q29 ?_
    refine ey_lload (cd_142 rfl) f7 ?_
    refine ey_ldc2 (z := 6364136223846793005) (cd_142 rfl) mt_142 rfl (by decide) ?_
    refine ey_lmul (cd_142 rfl) ?_
    refine ey_ldc2 (z := 1442695040888963407) (cd_142 rfl) mt_142 rfl (by decide) ?_
    refine ey_ladd (cd_142 rfl) ?_
    refine ey_lstore (cd_142 rfl) mt_142 rfl ?_
    refine ey_lload (cd_142 rfl) rfl ?_
    refine ey_bipush (cd_142 rfl) (by decide) ?_
    refine ey_lushr (cd_142 rfl) ?_
    refine ey_iconst (cd_142 rfl) ?_
    refine ey_iload (cd_142 rfl) f5 ?_
    refine ey_imul (cd_142 rfl) ?_
    refine ey_iconst (cd_142 rfl) ?_
    refine ey_iadd (cd_142 rfl) ?_
    refine ey_i2l (cd_142 rfl) ?_
    obtain ⟨u30, e31, e⟩ := jbind e
    refine ey_lrem (cd_142 rfl) (jnzl_s e31) ?_
    refine ey_l2i (cd_142 rfl) ?_
    refine ey_iload (cd_142 rfl) f5 ?_
    refine ey_isub (cd_142 rfl) ?_
    obtain ⟨z32, e33, e⟩ := jbind e
    refine ey_rs (s0 := [jI ((jlrem (jlushr ((x7 * 6364136223846793005) + 1442695040888963407) 33) (jw ((2 * x5) + 1))) - x5)]) (s1 := [jI z32]) (by rw [show ((jlrem (jlushr ((x7 * 6364136223846793005) + 1442695040888963407) 33) (jw ((2 * x5) + 1))) - x5) = z32 from Option.some.inj e33]) ?_
    refine ey_istore (cd_142 rfl) mt_142 rfl ?_
    refine ey_aload (cd_142 rfl) (jup_o rfl (jup2_pr (lv := lv) (j := 6) (v := jJ ((x7 * 6364136223846793005) + 1442695040888963407)) (z := x6) f6)) ?_
    obtain ⟨a34, e35, e⟩ := jbind e
    refine ey_rs (s0 := [jR x6]) (s1 := [jR (some a34)]) (by rw [e35]) ?_
    obtain ⟨r36, e37, e⟩ := jbind e
    refine ey_getf_r (cd_142 rfl) mt_142 rfl rfl rfl e37 ?_
    refine ey_iload (cd_142 rfl) (jup_pi (lv := (jup2 lv 7 (jJ ((x7 * 6364136223846793005) + 1442695040888963407)))) (j := 11) (v := jI z32) (z := x11) f11) ?_
    refine ey_aload (cd_142 rfl) (jup_o rfl (jup2_pr (lv := lv) (j := 6) (v := jJ ((x7 * 6364136223846793005) + 1442695040888963407)) (z := x6) f6)) ?_
    obtain ⟨a38, e39, e⟩ := jbind e
    refine ey_rs (s0 := [jR x6, jI x11, jR r36]) (s1 := [jR (some a38), jI x11, jR r36]) (by rw [e39]) ?_
    obtain ⟨r40, e41, e⟩ := jbind e
    refine ey_getf_r (cd_142 rfl) mt_142 rfl rfl rfl e41 ?_
    refine ey_iload (cd_142 rfl) (jup_pi (lv := (jup2 lv 7 (jJ ((x7 * 6364136223846793005) + 1442695040888963407)))) (j := 11) (v := jI z32) (z := x11) f11) ?_
    obtain ⟨a42, e43, e⟩ := jbind e
    refine ey_rs (s0 := [jI x11, jR r40, jI x11, jR r36]) (s1 := [jI x11, jR (some a42), jI x11, jR r36]) (by rw [e43]) ?_
    obtain ⟨v44, e45, e⟩ := jbind e
    refine ey_iald (cd_142 rfl) e45 ?_
    refine ey_iload (cd_142 rfl) rfl ?_
    refine ey_iadd (cd_142 rfl) ?_
    refine ey_cs (s0 := [jI (v44 + z32), jI x11, jR r36]) (s1 := [jI x11, jR r36]) (st' := [jI (jd_183 (v44 + z32)), jI x11, jR r36]) (cd_142 rfl) mt_142 mt_183 rfl (by decide) rfl rfl (jsml_s rfl) rfl (ok_183 ) ?_
    obtain ⟨a46, e47, e⟩ := jbind e
    refine ey_rs (s0 := [jI (jd_183 (v44 + z32)), jI x11, jR r36]) (s1 := [jI (jd_183 (v44 + z32)), jI x11, jR (some a46)]) (by rw [e47]) ?_
    obtain ⟨h48, e49, e⟩ := jbind e
    refine ey_iast (cd_142 rfl) e49 ?_
    refine ey_iinc (cd_142 rfl) mt_142 rfl (jup_pi (lv := (jup2 lv 7 (jJ ((x7 * 6364136223846793005) + 1442695040888963407)))) (j := 11) (v := jI z32) (z := x11) f11) ?_
    refine ey_goto (cd_142 rfl) rfl ?_
    cases e
    exact K (jup (jup (jup2 lv 7 (jJ ((x7 * 6364136223846793005) + 1442695040888963407))) 12 (jI z32)) 11 (jI (x11 + 1))) f5 (jup_o rfl (jup_o rfl (jup2_pr (lv := lv) (j := 6) (v := jJ ((x7 * 6364136223846793005) + 1442695040888963407)) (z := x6) f6))) rfl (jup_pi (lv := (jup (jup2 lv 7 (jJ ((x7 * 6364136223846793005) + 1442695040888963407))) 12 (jI z32))) (j := 10) (v := jI (x11 + 1)) (z := x10) f10) rfl
theorem jk_142_l67 {L : Nat} {xs : Nat → Int32} {this : Nat} {x5 : Int} {x6 : Option Nat} {x10 : Int} {x7 : Int} {x11 : Int} {h : jH} {x : jH} {r : mm_R} (e : jd_142_l67 this x5 x6 x10 x7 x11 h = some x) (K : (∀ lv : jL, ey (mm_xt L xs) 1 142 133 lv [] x r)) : ∀ lv : jL, lv 5 = some (jI x5) → lv 6 = some (jR x6) → lv 7 = some (jJ x7) → lv 10 = some (jI x10) → lv 11 = some (jI x11) → ey (mm_xt L xs) 1 142 67 lv [] h r := by
  unfold jd_142_l67 at e
  exact jlp_ok2 (P := fun s => ∀ lv : jL, lv 5 = some (jI x5) → lv 6 = some (jR x6) → lv 7 = some (jJ s.1) → lv 10 = some (jI x10) → lv 11 = some (jI s.2.1) → ey (mm_xt L xs) 1 142 67 lv [] s.2.2 r) (Q := fun x => (∀ lv : jL, ey (mm_xt L xs) 1 142 133 lv [] x r)) (fun s q hq hk => jk_142_s67 hq hk) jfu _ x e K
set_option maxRecDepth 100000 in
theorem ok_142 {L : Nat} {xs : Nat → Int32} {this : Nat} {p0 : Int} {p1 : Int} {p2 : Int} {p3 : Int} {h : jH} {o : ((Unit ⊕ Nat) × jH)} (e : jd_142 this p0 p1 p2 p3 h = some o) : mm_Runs (mm_xt L xs) 2 142 ([jR (some this), jI p0, jI p1, jJ p2, jI p3].map jcv) (jaH h) (jres_v o) := by
  refine ey_run0 _ mt_142 (jsl_s rfl) ?_
  unfold jd_142 at e
  refine ey_aload_n (cd_142 rfl) rfl ?_
  refine ey_iload_n (cd_142 rfl) rfl ?_
  obtain ⟨u1, e2, e⟩ := jbind e
  rcases jtb_c e with ⟨v5, h7, e4, e⟩ | ⟨E6, h7, e4, e⟩
  rotate_left
  · cases e
    exact ey_cvX (s0 := [jI p0, jR (some this)]) (s1 := []) (cd_142 rfl) mt_142 rfl mt_193 rfl rfl rfl (jck_s e2) rfl (jsml_s rfl) (ok_193 e4)
  refine ey_cv (s0 := [jI p0, jR (some this)]) (s1 := []) (st' := [jR (some v5)]) (cd_142 rfl) mt_142 mt_193 rfl rfl rfl (jck_s e2) rfl (jsml_s rfl) rfl (ok_193 e4) ?_
  refine ey_astore (cd_142 rfl) mt_142 rfl ?_
  refine ey_iload_n (cd_142 rfl) rfl ?_
  rcases jtb_c e with ⟨v10, h12, e9, e⟩ | ⟨E11, h12, e9, e⟩
  rotate_left
  · cases e
    exact ey_csX (s0 := [jI p1]) (s1 := []) (cd_142 rfl) mt_142 rfl mt_186 rfl rfl rfl (jsml_s rfl) (ok_186 e9)
  refine ey_cs (s0 := [jI p1]) (s1 := []) (st' := []) (cd_142 rfl) mt_142 mt_186 rfl (by decide) rfl rfl (jsml_s rfl) rfl (ok_186 e9) ?_
  refine ey_iload (cd_142 rfl) (jup_pi (lv := (jlf (jla 0 [jR (some this), jI p0, jI p1, jJ p2, jI p3]))) (j := 5) (v := jR (some v5)) (z := p3) rfl) ?_
  by_cases q13 : (jw p3) < 0
  · rw [if_pos q13] at e
    refine ey_zlt (cd_142 rfl) rfl rfl q13 ?_
    exact jk_142_b24 e (jup (jlf (jla 0 [jR (some this), jI p0, jI p1, jJ p2, jI p3])) 6 (jR (some v5))) 
  · rw [if_neg q13] at e
    refine ey_ylt (cd_142 rfl) rfl rfl q13 ?_
    refine ey_iload (cd_142 rfl) (jup_pi (lv := (jlf (jla 0 [jR (some this), jI p0, jI p1, jJ p2, jI p3]))) (j := 5) (v := jR (some v5)) (z := p3) rfl) ?_
    refine ey_sipush (cd_142 rfl) (by decide) ?_
    by_cases q16 : (jw p3) ≤ 255
    · rw [if_pos q16] at e
      refine ey_cle (cd_142 rfl) rfl rfl (show jw 255 = 255 from by decide) q16 ?_
      refine ey_lload_n (cd_142 rfl) rfl ?_
      refine ey_lstore (cd_142 rfl) mt_142 rfl ?_
      refine ey_aload (cd_142 rfl) (jup2_pr (lv := (jup (jlf (jla 0 [jR (some this), jI p0, jI p1, jJ p2, jI p3])) 6 (jR (some v5)))) (j := 6) (v := jJ p2) (z := (some v5)) rfl) ?_
      refine ey_iload_n (cd_142 rfl) rfl ?_
      obtain ⟨u17, e18, e⟩ := jbind e
      obtain ⟨v19, e20, e⟩ := jbind e
      refine ey_cv (s0 := [jI p1, jR (some v5)]) (s1 := []) (st' := [jI v19]) (cd_142 rfl) mt_142 mt_98 rfl rfl rfl (jck_s e18) rfl (jsml_s rfl) rfl (ok_98 e20) ?_
      refine ey_istore (cd_142 rfl) mt_142 rfl ?_
      refine ey_iload (cd_142 rfl) rfl ?_
      refine ey_aload (cd_142 rfl) (jup_o rfl (jup2_pr (lv := (jup (jlf (jla 0 [jR (some this), jI p0, jI p1, jJ p2, jI p3])) 6 (jR (some v5)))) (j := 6) (v := jJ p2) (z := (some v5)) rfl)) ?_
      refine ey_iload_n (cd_142 rfl) rfl ?_
      obtain ⟨u21, e22, e⟩ := jbind e
      obtain ⟨v23, e24, e⟩ := jbind e
      refine ey_cv (s0 := [jI p1, jR (some v5), jI v19]) (s1 := [jI v19]) (st' := [jI v23, jI v19]) (cd_142 rfl) mt_142 mt_96 rfl rfl rfl (jck_s e22) rfl (jsml_s rfl) rfl (ok_96 e24) ?_
      refine ey_aload (cd_142 rfl) (jup_o rfl (jup2_pr (lv := (jup (jlf (jla 0 [jR (some this), jI p0, jI p1, jJ p2, jI p3])) 6 (jR (some v5)))) (j := 6) (v := jJ p2) (z := (some v5)) rfl)) ?_
      refine ey_iload_n (cd_142 rfl) rfl ?_
      obtain ⟨u25, e26, e⟩ := jbind e
      obtain ⟨v27, e28, e⟩ := jbind e
      refine ey_cv (s0 := [jI p1, jR (some v5), jI v23, jI v19]) (s1 := [jI v23, jI v19]) (st' := [jI v27, jI v23, jI v19]) (cd_142 rfl) mt_142 mt_97 rfl rfl rfl (jck_s e26) rfl (jsml_s rfl) rfl (ok_97 e28) ?_
      refine ey_imul (cd_142 rfl) ?_
      refine ey_iadd (cd_142 rfl) ?_
      refine ey_istore (cd_142 rfl) mt_142 rfl ?_
      refine ey_iload (cd_142 rfl) (jup_pi (lv := (jup (jup2 (jup (jlf (jla 0 [jR (some this), jI p0, jI p1, jJ p2, jI p3])) 6 (jR (some v5))) 7 (jJ p2)) 9 (jI v19))) (j := 9) (v := jI (v19 + (v23 * v27))) (z := v19) rfl) ?_
      refine ey_istore (cd_142 rfl) mt_142 rfl ?_
      obtain ⟨x50, e51, e⟩ := jbind e
      refine jk_142_l67 e51 ?_ (jup (jup (jup (jup2 (jup (jlf (jla 0 [jR (some this), jI p0, jI p1, jJ p2, jI p3])) 6 (jR (some v5))) 7 (jJ p2)) 9 (jI v19)) 10 (jI (v19 + (v23 * v27)))) 11 (jI v19)) (jup_o rfl (jup_o rfl (jup_o rfl (jup2_o rfl (jup_pi (lv := (jlf (jla 0 [jR (some this), jI p0, jI p1, jJ p2, jI p3]))) (j := 5) (v := jR (some v5)) (z := p3) rfl))))) (jup_o rfl (jup_o rfl (jup_o rfl (jup2_pr (lv := (jup (jlf (jla 0 [jR (some this), jI p0, jI p1, jJ p2, jI p3])) 6 (jR (some v5)))) (j := 6) (v := jJ p2) (z := (some v5)) rfl)))) rfl (jup_pi (lv := (jup (jup (jup2 (jup (jlf (jla 0 [jR (some this), jI p0, jI p1, jJ p2, jI p3])) 6 (jR (some v5))) 7 (jJ p2)) 9 (jI v19)) 10 (jI (v19 + (v23 * v27))))) (j := 10) (v := jI v19) (z := (v19 + (v23 * v27))) rfl) rfl
      intro lv 
      cases e
      exact ey_retv (cd_142 rfl) mt_142 rfl
    · rw [if_neg q16] at e
      refine ey_nle (cd_142 rfl) rfl rfl (show jw 255 = 255 from by decide) q16 ?_
      exact jk_142_b24 e (jup (jlf (jla 0 [jR (some this), jI p0, jI p1, jJ p2, jI p3])) 6 (jR (some v5))) 
theorem cd_143 {pc : Nat} {i : Instr × Nat} (h : mm_lk mm_c143 pc = some i) : mm_cd 143 pc = some i := h
theorem mt_143 : mm_MT 143 = (11, 12, some .int, 3, 0, []) := rfl
set_option maxRecDepth 100000 in
theorem jk_143_b35 {L : Nat} {xs : Nat → Int32} {this : Nat}  {h : jH} {o : ((Int ⊕ Nat) × jH)} (e : jd_143_b35 this  h = some o) : ∀ lv : jL, ey (mm_xt L xs) 2 143 35 lv [] h (jres_i o) := by
  intro lv 
  unfold jd_143_b35 at e
  obtain ⟨u9, e10, e⟩ := jbind e
  cases e
  exact ey_throw (st := []) (f := (0, 85, 148, 89, 0)) (cd_143 rfl) mt_143 rfl rfl rfl (j6_s e10) (jsml_s rfl)
set_option maxRecDepth 100000 in
theorem jk_143_s130 {L : Nat} {xs : Nat → Int32} {this : Nat} {x2 : Int} {x3 : Int} {x4 : Option Nat} {x5 : Option Nat} {x6 : Int} {x7 : Int} {x8 : Int} {x10 : Int} {x9 : Int} {x11 : Int} {h : jH} {o : ((Int × Int × jH) ⊕ (Int × jH))} {r : mm_R} (e : jd_143_s130 this x2 x3 x4 x5 x6 x7 x8 x10 x9 x11 h = some o) (K : jsm (fun s => (∀ lv : jL, lv 0 = some (jR (some this)) → lv 2 = some (jI x2) → lv 3 = some (jI x3) → lv 4 = some (jR x4) → lv 5 = some (jR x5) → lv 6 = some (jI x6) → lv 7 = some (jI x7) → lv 8 = some (jI x8) → lv 9 = some (jI s.1) → lv 10 = some (jI x10) → lv 11 = some (jI s.2.1) → ey (mm_xt L xs) 2 143 130 lv [] s.2.2 r)) (fun x => (∀ lv : jL, lv 0 = some (jR (some this)) → lv 2 = some (jI x2) → lv 3 = some (jI x3) → lv 4 = some (jR x4) → lv 5 = some (jR x5) → lv 6 = some (jI x6) → lv 7 = some (jI x7) → lv 8 = some (jI x8) → lv 9 = some (jI x.1) → lv 10 = some (jI x10) → ey (mm_xt L xs) 2 143 178 lv [] x.2 r)) o) : ∀ lv : jL, lv 0 = some (jR (some this)) → lv 2 = some (jI x2) → lv 3 = some (jI x3) → lv 4 = some (jR x4) → lv 5 = some (jR x5) → lv 6 = some (jI x6) → lv 7 = some (jI x7) → lv 8 = some (jI x8) → lv 9 = some (jI x9) → lv 10 = some (jI x10) → lv 11 = some (jI x11) → ey (mm_xt L xs) 2 143 130 lv [] h r := by
  intro lv f0 f2 f3 f4 f5 f6 f7 f8 f9 f10 f11
  unfold jd_143_s130 at e
  refine ey_iload (cd_143 rfl) f11 ?_
  refine ey_aload (cd_143 rfl) f5 ?_
  refine ey_iload (cd_143 rfl) f6 ?_
  obtain ⟨a47, e48, e⟩ := jbind e
  refine ey_rs (s0 := [jI x6, jR x5, jI x11]) (s1 := [jI x6, jR (some a47), jI x11]) (by rw [e48]) ?_
  obtain ⟨u49, e50, e⟩ := jbind e
  obtain ⟨v51, e52, e⟩ := jbind e
  refine ey_cv (s0 := [jI x6, jR (some a47), jI x11]) (s1 := [jI x11]) (st' := [jI v51, jI x11]) (cd_143 rfl) mt_143 mt_96 rfl rfl rfl (jck_s e50) rfl (jsml_s rfl) rfl (mm_Runs.up (d := 1) (by decide) (ok_96 e52)) ?_
  by_cases q53 : (jw v51) ≤ (jw x11)
  · rw [if_pos q53] at e
    refine ey_cge (cd_143 rfl) rfl rfl rfl q53 ?_
    cases e
    exact K lv f0 f2 f3 f4 f5 f6 f7 f8 f9 f10
  · rw [if_neg q53] at e
    refine ey_nge (cd_143 rfl) rfl rfl rfl q53 ?_
    refine ey_aload (cd_143 rfl) f5 ?_
    obtain ⟨a54, e55, e⟩ := jbind e
    refine ey_rs (s0 := [jR x5]) (s1 := [jR (some a54)]) (by rw [e55]) ?_
    obtain ⟨r56, e57, e⟩ := jbind e
    refine ey_getf_r (cd_143 rfl) mt_143 rfl rfl rfl e57 ?_
    refine ey_iload (cd_143 rfl) f9 ?_
    refine ey_iinc (cd_143 rfl) mt_143 rfl f9 ?_
    refine ey_aload (cd_143 rfl) f4 ?_
    refine ey_iload (cd_143 rfl) f6 ?_
    refine ey_iload (cd_143 rfl) f11 ?_
    refine ey_iload (cd_143 rfl) f7 ?_
    refine ey_isub (cd_143 rfl) ?_
    refine ey_i2l (cd_143 rfl) ?_
    refine ey_iload (cd_143 rfl) f10 ?_
    refine ey_iload (cd_143 rfl) (jup_pi (lv := lv) (j := 8) (v := jI (x9 + 1)) (z := x8) f8) ?_
    refine ey_isub (cd_143 rfl) ?_
    refine ey_i2l (cd_143 rfl) ?_
    obtain ⟨a58, e59, e⟩ := jbind e
    refine ey_rs (s0 := [jJ (jw (x10 - x8)), jJ (jw (x11 - x7)), jI x6, jR x4, jI x9, jR r56]) (s1 := [jJ (jw (x10 - x8)), jJ (jw (x11 - x7)), jI x6, jR (some a58), jI x9, jR r56]) (by rw [e59]) ?_
    obtain ⟨u60, e61, e⟩ := jbind e
    obtain ⟨v62, e63, e⟩ := jbind e
    refine ey_cv (s0 := [jJ (jw (x10 - x8)), jJ (jw (x11 - x7)), jI x6, jR (some a58), jI x9, jR r56]) (s1 := [jI x9, jR r56]) (st' := [jI v62, jI x9, jR r56]) (cd_143 rfl) mt_143 mt_103 rfl rfl rfl (jck_s e61) rfl (jsml_s rfl) rfl (ok_103 e63) ?_
    obtain ⟨a64, e65, e⟩ := jbind e
    refine ey_rs (s0 := [jI v62, jI x9, jR r56]) (s1 := [jI v62, jI x9, jR (some a64)]) (by rw [e65]) ?_
    obtain ⟨h66, e67, e⟩ := jbind e
    refine ey_iast (cd_143 rfl) e67 ?_
    refine ey_iinc (cd_143 rfl) mt_143 rfl f11 ?_
    refine ey_goto (cd_143 rfl) rfl ?_
    cases e
    exact K (jup (jup lv 9 (jI (x9 + 1))) 11 (jI (x11 + 1))) f0 f2 f3 f4 f5 f6 f7 (jup_o rfl (jup_pi (lv := lv) (j := 8) (v := jI (x9 + 1)) (z := x8) f8)) rfl (jup_pi (lv := (jup lv 9 (jI (x9 + 1)))) (j := 10) (v := jI (x11 + 1)) (z := x10) f10) rfl
theorem jk_143_l130 {L : Nat} {xs : Nat → Int32} {this : Nat} {x2 : Int} {x3 : Int} {x4 : Option Nat} {x5 : Option Nat} {x6 : Int} {x7 : Int} {x8 : Int} {x10 : Int} {x9 : Int} {x11 : Int} {h : jH} {x : (Int × jH)} {r : mm_R} (e : jd_143_l130 this x2 x3 x4 x5 x6 x7 x8 x10 x9 x11 h = some x) (K : (∀ lv : jL, lv 0 = some (jR (some this)) → lv 2 = some (jI x2) → lv 3 = some (jI x3) → lv 4 = some (jR x4) → lv 5 = some (jR x5) → lv 6 = some (jI x6) → lv 7 = some (jI x7) → lv 8 = some (jI x8) → lv 9 = some (jI x.1) → lv 10 = some (jI x10) → ey (mm_xt L xs) 2 143 178 lv [] x.2 r)) : ∀ lv : jL, lv 0 = some (jR (some this)) → lv 2 = some (jI x2) → lv 3 = some (jI x3) → lv 4 = some (jR x4) → lv 5 = some (jR x5) → lv 6 = some (jI x6) → lv 7 = some (jI x7) → lv 8 = some (jI x8) → lv 9 = some (jI x9) → lv 10 = some (jI x10) → lv 11 = some (jI x11) → ey (mm_xt L xs) 2 143 130 lv [] h r := by
  unfold jd_143_l130 at e
  exact jlp_ok2 (P := fun s => ∀ lv : jL, lv 0 = some (jR (some this)) → lv 2 = some (jI x2) → lv 3 = some (jI x3) → lv 4 = some (jR x4) → lv 5 = some (jR x5) → lv 6 = some (jI x6) → lv 7 = some (jI x7) → lv 8 = some (jI x8) → lv 9 = some (jI s.1) → lv 10 = some (jI x10) → lv 11 = some (jI s.2.1) → ey (mm_xt L xs) 2 143 130 lv [] s.2.2 r) (Q := fun x => (∀ lv : jL, lv 0 = some (jR (some this)) → lv 2 = some (jI x2) → lv 3 = some (jI x3) → lv 4 = some (jR x4) → lv 5 = some (jR x5) → lv 6 = some (jI x6) → lv 7 = some (jI x7) → lv 8 = some (jI x8) → lv 9 = some (jI x.1) → lv 10 = some (jI x10) → ey (mm_xt L xs) 2 143 178 lv [] x.2 r)) (fun s q hq hk => jk_143_s130 hq hk) jfu _ x e K
set_option maxRecDepth 100000 in
theorem jk_143_s115 {L : Nat} {xs : Nat → Int32} {this : Nat} {x2 : Int} {x3 : Int} {x4 : Option Nat} {x5 : Option Nat} {x6 : Int} {x7 : Int} {x8 : Int} {x9 : Int} {x10 : Int} {h : jH} {o : ((Int × Int × jH) ⊕ jH)} {r : mm_R} (e : jd_143_s115 this x2 x3 x4 x5 x6 x7 x8 x9 x10 h = some o) (K : jsm (fun s => (∀ lv : jL, lv 0 = some (jR (some this)) → lv 2 = some (jI x2) → lv 3 = some (jI x3) → lv 4 = some (jR x4) → lv 5 = some (jR x5) → lv 6 = some (jI x6) → lv 7 = some (jI x7) → lv 8 = some (jI x8) → lv 9 = some (jI s.1) → lv 10 = some (jI s.2.1) → ey (mm_xt L xs) 2 143 115 lv [] s.2.2 r)) (fun x => (∀ lv : jL, lv 0 = some (jR (some this)) → lv 2 = some (jI x2) → lv 3 = some (jI x3) → lv 4 = some (jR x4) → lv 5 = some (jR x5) → lv 6 = some (jI x6) → ey (mm_xt L xs) 2 143 184 lv [] x r)) o) : ∀ lv : jL, lv 0 = some (jR (some this)) → lv 2 = some (jI x2) → lv 3 = some (jI x3) → lv 4 = some (jR x4) → lv 5 = some (jR x5) → lv 6 = some (jI x6) → lv 7 = some (jI x7) → lv 8 = some (jI x8) → lv 9 = some (jI x9) → lv 10 = some (jI x10) → ey (mm_xt L xs) 2 143 115 lv [] h r := by
  intro lv f0 f2 f3 f4 f5 f6 f7 f8 f9 f10
  unfold jd_143_s115 at e
  refine ey_iload (cd_143 rfl) f10 ?_
  refine ey_aload (cd_143 rfl) f5 ?_
  refine ey_iload (cd_143 rfl) f6 ?_
  obtain ⟨a40, e41, e⟩ := jbind e
  refine ey_rs (s0 := [jI x6, jR x5, jI x10]) (s1 := [jI x6, jR (some a40), jI x10]) (by rw [e41]) ?_
  obtain ⟨u42, e43, e⟩ := jbind e
  obtain ⟨v44, e45, e⟩ := jbind e
  refine ey_cv (s0 := [jI x6, jR (some a40), jI x10]) (s1 := [jI x10]) (st' := [jI v44, jI x10]) (cd_143 rfl) mt_143 mt_97 rfl rfl rfl (jck_s e43) rfl (jsml_s rfl) rfl (mm_Runs.up (d := 1) (by decide) (ok_97 e45)) ?_
  by_cases q46 : (jw v44) ≤ (jw x10)
  · rw [if_pos q46] at e
    refine ey_cge (cd_143 rfl) rfl rfl rfl q46 ?_
    cases e
    exact K lv f0 f2 f3 f4 f5 f6
  · rw [if_neg q46] at e
    refine ey_nge (cd_143 rfl) rfl rfl rfl q46 ?_
    refine ey_iconst (cd_143 rfl) ?_
    refine ey_istore (cd_143 rfl) mt_143 rfl ?_
    obtain ⟨x68, e69, e⟩ := jbind e
    refine jk_143_l130 e69 ?_ (jup lv 11 (jI 0)) f0 f2 f3 f4 f5 f6 f7 f8 f9 (jup_pi (lv := lv) (j := 10) (v := jI 0) (z := x10) f10) rfl
    intro lv g0 g2 g3 g4 g5 g6 g7 g8 g9 g10
    refine ey_iinc (cd_143 rfl) mt_143 rfl g10 ?_
    refine ey_goto (cd_143 rfl) rfl ?_
    cases e
    exact K (jup lv 10 (jI (x10 + 1))) g0 g2 g3 g4 g5 g6 g7 g8 (jup_pi (lv := lv) (j := 9) (v := jI (x10 + 1)) (z := x68.1) g9) rfl
theorem jk_143_l115 {L : Nat} {xs : Nat → Int32} {this : Nat} {x2 : Int} {x3 : Int} {x4 : Option Nat} {x5 : Option Nat} {x6 : Int} {x7 : Int} {x8 : Int} {x9 : Int} {x10 : Int} {h : jH} {x : jH} {r : mm_R} (e : jd_143_l115 this x2 x3 x4 x5 x6 x7 x8 x9 x10 h = some x) (K : (∀ lv : jL, lv 0 = some (jR (some this)) → lv 2 = some (jI x2) → lv 3 = some (jI x3) → lv 4 = some (jR x4) → lv 5 = some (jR x5) → lv 6 = some (jI x6) → ey (mm_xt L xs) 2 143 184 lv [] x r)) : ∀ lv : jL, lv 0 = some (jR (some this)) → lv 2 = some (jI x2) → lv 3 = some (jI x3) → lv 4 = some (jR x4) → lv 5 = some (jR x5) → lv 6 = some (jI x6) → lv 7 = some (jI x7) → lv 8 = some (jI x8) → lv 9 = some (jI x9) → lv 10 = some (jI x10) → ey (mm_xt L xs) 2 143 115 lv [] h r := by
  unfold jd_143_l115 at e
  exact jlp_ok2 (P := fun s => ∀ lv : jL, lv 0 = some (jR (some this)) → lv 2 = some (jI x2) → lv 3 = some (jI x3) → lv 4 = some (jR x4) → lv 5 = some (jR x5) → lv 6 = some (jI x6) → lv 7 = some (jI x7) → lv 8 = some (jI x8) → lv 9 = some (jI s.1) → lv 10 = some (jI s.2.1) → ey (mm_xt L xs) 2 143 115 lv [] s.2.2 r) (Q := fun x => (∀ lv : jL, lv 0 = some (jR (some this)) → lv 2 = some (jI x2) → lv 3 = some (jI x3) → lv 4 = some (jR x4) → lv 5 = some (jR x5) → lv 6 = some (jI x6) → ey (mm_xt L xs) 2 143 184 lv [] x r)) (fun s q hq hk => jk_143_s115 hq hk) jfu _ x e K
set_option maxRecDepth 100000 in
theorem jk_143_s69 {L : Nat} {xs : Nat → Int32} {this : Nat} {x2 : Int} {x3 : Int} {x4 : Option Nat} {x5 : Option Nat} {x6 : Int} {h : jH} {o : ((Int × jH) ⊕ jH)} {r : mm_R} (e : jd_143_s69 this x2 x3 x4 x5 x6 h = some o) (K : jsm (fun s => (∀ lv : jL, lv 0 = some (jR (some this)) → lv 2 = some (jI x2) → lv 3 = some (jI x3) → lv 4 = some (jR x4) → lv 5 = some (jR x5) → lv 6 = some (jI s.1) → ey (mm_xt L xs) 2 143 69 lv [] s.2 r)) (fun x => (∀ lv : jL, lv 0 = some (jR (some this)) → ey (mm_xt L xs) 2 143 190 lv [] x r)) o) : ∀ lv : jL, lv 0 = some (jR (some this)) → lv 2 = some (jI x2) → lv 3 = some (jI x3) → lv 4 = some (jR x4) → lv 5 = some (jR x5) → lv 6 = some (jI x6) → ey (mm_xt L xs) 2 143 69 lv [] h r := by
  intro lv f0 f2 f3 f4 f5 f6
  unfold jd_143_s69 at e
  refine ey_iload (cd_143 rfl) f6 ?_
  refine ey_iconst (cd_143 rfl) ?_
  by_cases q29 : 3 ≤ (jw x6)
  · rw [if_pos q29] at e
    refine ey_cge (cd_143 rfl) rfl rfl (show jw 3 = 3 from by decide) q29 ?_
    cases e
    exact K lv f0
  · rw [if_neg q29] at e
    refine ey_nge (cd_143 rfl) rfl rfl (show jw 3 = 3 from by decide) q29 ?_
    refine ey_iload (cd_143 rfl) f6 ?_
    have K74 : ∀ lv : jL, lv 0 = some (jR (some this)) → lv 2 = some (jI x2) → lv 3 = some (jI x3) → lv 4 = some (jR x4) → lv 5 = some (jR x5) → lv 6 = some (jI x6) → ey (mm_xt L xs) 2 143 87 lv [jI (if (jw x6) = 0 then x2 else (jdiv x2 2))] h r := by
      intro lv g0 g2 g3 g4 g5 g6
      obtain ⟨z30, e31, e⟩ := jbind e
      refine ey_rs (s0 := [jI (if (jw x6) = 0 then x2 else (jdiv x2 2))]) (s1 := [jI z30]) (by rw [show (if (jw x6) = 0 then x2 else (jdiv x2 2)) = z30 from Option.some.inj e31]) ?_
      refine ey_istore (cd_143 rfl) mt_143 rfl ?_
      refine ey_iload (cd_143 rfl) (jup_pi (lv := lv) (j := 6) (v := jI z30) (z := x6) g6) ?_
      have K72 : ∀ lv : jL, lv 0 = some (jR (some this)) → lv 2 = some (jI x2) → lv 3 = some (jI x3) → lv 4 = some (jR x4) → lv 5 = some (jR x5) → lv 6 = some (jI x6) → lv 7 = some (jI z30) → ey (mm_xt L xs) 2 143 101 lv [jI (if (jw x6) = 0 then x3 else (jdiv x3 2))] h r := by
        intro lv g0 g2 g3 g4 g5 g6 g7
        obtain ⟨z32, e33, e⟩ := jbind e
        refine ey_rs (s0 := [jI (if (jw x6) = 0 then x3 else (jdiv x3 2))]) (s1 := [jI z32]) (by rw [show (if (jw x6) = 0 then x3 else (jdiv x3 2)) = z32 from Option.some.inj e33]) ?_
        refine ey_istore (cd_143 rfl) mt_143 rfl ?_
        refine ey_aload (cd_143 rfl) g5 ?_
        refine ey_iload (cd_143 rfl) g6 ?_
        obtain ⟨a34, e35, e⟩ := jbind e
        refine ey_rs (s0 := [jI x6, jR x5]) (s1 := [jI x6, jR (some a34)]) (by rw [e35]) ?_
        obtain ⟨u36, e37, e⟩ := jbind e
        obtain ⟨v38, e39, e⟩ := jbind e
        refine ey_cv (s0 := [jI x6, jR (some a34)]) (s1 := []) (st' := [jI v38]) (cd_143 rfl) mt_143 mt_98 rfl rfl rfl (jck_s e37) rfl (jsml_s rfl) rfl (mm_Runs.up (d := 1) (by decide) (ok_98 e39)) ?_
        refine ey_istore (cd_143 rfl) mt_143 rfl ?_
        refine ey_iconst (cd_143 rfl) ?_
        refine ey_istore (cd_143 rfl) mt_143 rfl ?_
        obtain ⟨x70, e71, e⟩ := jbind e
        refine jk_143_l115 e71 ?_ (jup (jup (jup lv 8 (jI z32)) 9 (jI v38)) 10 (jI 0)) g0 g2 g3 g4 g5 g6 (jup_o rfl (jup_o rfl (jup_pi (lv := lv) (j := 7) (v := jI z32) (z := z30) g7))) (jup_o rfl (jup_pi (lv := (jup lv 8 (jI z32))) (j := 8) (v := jI v38) (z := z32) rfl)) (jup_pi (lv := (jup (jup lv 8 (jI z32)) 9 (jI v38))) (j := 9) (v := jI 0) (z := v38) rfl) rfl
        intro lv g0 g2 g3 g4 g5 g6
        refine ey_iinc (cd_143 rfl) mt_143 rfl g6 ?_
        refine ey_goto (cd_143 rfl) rfl ?_
        cases e
        exact K (jup lv 6 (jI (x6 + 1))) g0 g2 g3 g4 (jup_pr (lv := lv) (j := 5) (v := jI (x6 + 1)) (z := x5) g5) rfl
      by_cases q73 : (jw x6) = 0
      · refine ey_yne (cd_143 rfl) rfl rfl (fun w => w q73) ?_
        refine ey_iload_n (cd_143 rfl) g3 ?_
        refine ey_goto (cd_143 rfl) rfl ?_
        exact ey_rs (s0 := [jI x3]) (s1 := [jI (if (jw x6) = 0 then x3 else (jdiv x3 2))]) (by rw [show ((if (jw x6) = 0 then x3 else (jdiv x3 2)) : Int) = x3 from (if_pos q73)]) (K72 (jup lv 7 (jI z30)) g0 g2 g3 g4 g5 (jup_pi (lv := lv) (j := 6) (v := jI z30) (z := x6) g6) rfl)
      · refine ey_zne (cd_143 rfl) rfl rfl q73 ?_
        refine ey_iload_n (cd_143 rfl) g3 ?_
        refine ey_iconst (cd_143 rfl) ?_
        refine ey_idiv (cd_143 rfl) (by decide) ?_
        exact ey_rs (s0 := [jI (jdiv x3 2)]) (s1 := [jI (if (jw x6) = 0 then x3 else (jdiv x3 2))]) (by rw [show ((if (jw x6) = 0 then x3 else (jdiv x3 2)) : Int) = (jdiv x3 2) from (if_neg q73)]) (K72 (jup lv 7 (jI z30)) g0 g2 g3 g4 g5 (jup_pi (lv := lv) (j := 6) (v := jI z30) (z := x6) g6) rfl)
    by_cases q75 : (jw x6) = 0
    · refine ey_yne (cd_143 rfl) rfl rfl (fun w => w q75) ?_
      refine ey_iload_n (cd_143 rfl) f2 ?_
      refine ey_goto (cd_143 rfl) rfl ?_
      exact ey_rs (s0 := [jI x2]) (s1 := [jI (if (jw x6) = 0 then x2 else (jdiv x2 2))]) (by rw [show ((if (jw x6) = 0 then x2 else (jdiv x2 2)) : Int) = x2 from (if_pos q75)]) (K74 lv f0 f2 f3 f4 f5 f6)
    · refine ey_zne (cd_143 rfl) rfl rfl q75 ?_
      refine ey_iload_n (cd_143 rfl) f2 ?_
      refine ey_iconst (cd_143 rfl) ?_
      refine ey_idiv (cd_143 rfl) (by decide) ?_
      exact ey_rs (s0 := [jI (jdiv x2 2)]) (s1 := [jI (if (jw x6) = 0 then x2 else (jdiv x2 2))]) (by rw [show ((if (jw x6) = 0 then x2 else (jdiv x2 2)) : Int) = (jdiv x2 2) from (if_neg q75)]) (K74 lv f0 f2 f3 f4 f5 f6)
theorem jk_143_l69 {L : Nat} {xs : Nat → Int32} {this : Nat} {x2 : Int} {x3 : Int} {x4 : Option Nat} {x5 : Option Nat} {x6 : Int} {h : jH} {x : jH} {r : mm_R} (e : jd_143_l69 this x2 x3 x4 x5 x6 h = some x) (K : (∀ lv : jL, lv 0 = some (jR (some this)) → ey (mm_xt L xs) 2 143 190 lv [] x r)) : ∀ lv : jL, lv 0 = some (jR (some this)) → lv 2 = some (jI x2) → lv 3 = some (jI x3) → lv 4 = some (jR x4) → lv 5 = some (jR x5) → lv 6 = some (jI x6) → ey (mm_xt L xs) 2 143 69 lv [] h r := by
  unfold jd_143_l69 at e
  exact jlp_ok2 (P := fun s => ∀ lv : jL, lv 0 = some (jR (some this)) → lv 2 = some (jI x2) → lv 3 = some (jI x3) → lv 4 = some (jR x4) → lv 5 = some (jR x5) → lv 6 = some (jI s.1) → ey (mm_xt L xs) 2 143 69 lv [] s.2 r) (Q := fun x => (∀ lv : jL, lv 0 = some (jR (some this)) → ey (mm_xt L xs) 2 143 190 lv [] x r)) (fun s q hq hk => jk_143_s69 hq hk) jfu _ x e K
set_option maxRecDepth 100000 in
theorem ok_143 {L : Nat} {xs : Nat → Int32} {this : Nat} {p0 : Int} {p1 : Int} {p2 : Int} {h : jH} {o : ((Int ⊕ Nat) × jH)} (e : jd_143 this p0 p1 p2 h = some o) : mm_Runs (mm_xt L xs) 3 143 ([jR (some this), jI p0, jI p1, jI p2].map jcv) (jaH h) (jres_i o) := by
  refine ey_run0 _ mt_143 (jsl_s rfl) ?_
  unfold jd_143 at e
  refine ey_aload_n (cd_143 rfl) rfl ?_
  refine ey_iload_n (cd_143 rfl) rfl ?_
  obtain ⟨u1, e2, e⟩ := jbind e
  rcases jtb_c e with ⟨v5, h7, e4, e⟩ | ⟨E6, h7, e4, e⟩
  rotate_left
  · cases e
    exact ey_cvX (s0 := [jI p0, jR (some this)]) (s1 := []) (cd_143 rfl) mt_143 rfl mt_193 rfl rfl rfl (jck_s e2) rfl (jsml_s rfl) (mm_Runs.up (d := 1) (by decide) (ok_193 e4))
  refine ey_cv (s0 := [jI p0, jR (some this)]) (s1 := []) (st' := [jR (some v5)]) (cd_143 rfl) mt_143 mt_193 rfl rfl rfl (jck_s e2) rfl (jsml_s rfl) rfl (mm_Runs.up (d := 1) (by decide) (ok_193 e4)) ?_
  refine ey_astore (cd_143 rfl) mt_143 rfl ?_
  refine ey_iload_n (cd_143 rfl) rfl ?_
  refine ey_sipush (cd_143 rfl) (by decide) ?_
  by_cases q8 : (jw p1) < (-1000)
  · rw [if_pos q8] at e
    refine ey_clt (cd_143 rfl) rfl rfl (show jw (-1000) = (-1000) from by decide) q8 ?_
    exact jk_143_b35 e (jup (jlf (jla 0 [jR (some this), jI p0, jI p1, jI p2])) 4 (jR (some v5))) 
  · rw [if_neg q8] at e
    refine ey_nlt (cd_143 rfl) rfl rfl (show jw (-1000) = (-1000) from by decide) q8 ?_
    refine ey_iload_n (cd_143 rfl) rfl ?_
    refine ey_sipush (cd_143 rfl) (by decide) ?_
    by_cases q11 : 1000 < (jw p1)
    · rw [if_pos q11] at e
      refine ey_cgt (cd_143 rfl) rfl rfl (show jw 1000 = 1000 from by decide) q11 ?_
      exact jk_143_b35 e (jup (jlf (jla 0 [jR (some this), jI p0, jI p1, jI p2])) 4 (jR (some v5))) 
    · rw [if_neg q11] at e
      refine ey_ngt (cd_143 rfl) rfl rfl (show jw 1000 = 1000 from by decide) q11 ?_
      refine ey_iload_n (cd_143 rfl) (jup_pi (lv := (jlf (jla 0 [jR (some this), jI p0, jI p1, jI p2]))) (j := 3) (v := jR (some v5)) (z := p2) rfl) ?_
      refine ey_sipush (cd_143 rfl) (by decide) ?_
      by_cases q12 : (jw p2) < (-1000)
      · rw [if_pos q12] at e
        refine ey_clt (cd_143 rfl) rfl rfl (show jw (-1000) = (-1000) from by decide) q12 ?_
        exact jk_143_b35 e (jup (jlf (jla 0 [jR (some this), jI p0, jI p1, jI p2])) 4 (jR (some v5))) 
      · rw [if_neg q12] at e
        refine ey_nlt (cd_143 rfl) rfl rfl (show jw (-1000) = (-1000) from by decide) q12 ?_
        refine ey_iload_n (cd_143 rfl) (jup_pi (lv := (jlf (jla 0 [jR (some this), jI p0, jI p1, jI p2]))) (j := 3) (v := jR (some v5)) (z := p2) rfl) ?_
        refine ey_sipush (cd_143 rfl) (by decide) ?_
        by_cases q13 : (jw p2) ≤ 1000
        · rw [if_pos q13] at e
          refine ey_cle (cd_143 rfl) rfl rfl (show jw 1000 = 1000 from by decide) q13 ?_
          refine ey_aload_n (cd_143 rfl) rfl ?_
          obtain ⟨u14, e15, e⟩ := jbind e
          rcases jtb_c e with ⟨v18, h20, e17, e⟩ | ⟨E19, h20, e17, e⟩
          rotate_left
          · cases e
            exact ey_cvX (s0 := [jR (some this)]) (s1 := []) (cd_143 rfl) mt_143 rfl mt_194 rfl rfl rfl (jck_s e15) rfl (jsml_s rfl) (ok_194 e17)
          refine ey_cv (s0 := [jR (some this)]) (s1 := []) (st' := [jR (some v18)]) (cd_143 rfl) mt_143 mt_194 rfl rfl rfl (jck_s e15) rfl (jsml_s rfl) rfl (ok_194 e17) ?_
          refine ey_astore (cd_143 rfl) mt_143 rfl ?_
          refine ey_aload (cd_143 rfl) rfl ?_
          refine ey_aload (cd_143 rfl) (jup_pr (lv := (jup (jlf (jla 0 [jR (some this), jI p0, jI p1, jI p2])) 4 (jR (some v5)))) (j := 4) (v := jR (some v18)) (z := (some v5)) rfl) ?_
          obtain ⟨v21, e22, e⟩ := jbind e
          refine ey_getf_i (cd_143 rfl) mt_143 rfl rfl rfl e22 ?_
          refine ey_aload (cd_143 rfl) (jup_pr (lv := (jup (jlf (jla 0 [jR (some this), jI p0, jI p1, jI p2])) 4 (jR (some v5)))) (j := 4) (v := jR (some v18)) (z := (some v5)) rfl) ?_
          obtain ⟨v23, e24, e⟩ := jbind e
          refine ey_getf_i (cd_143 rfl) mt_143 rfl rfl rfl e24 ?_
          obtain ⟨u25, e26, e⟩ := jbind e
          obtain ⟨h27, e28, e⟩ := jbind e
          refine ey_cv (s0 := [jI v23, jI v21, jR (some v18)]) (s1 := []) (st' := []) (cd_143 rfl) mt_143 mt_95 rfl rfl rfl (jck_s e26) rfl (jsml_s rfl) rfl (mm_Runs.up (d := 1) (by decide) (ok_95 e28)) ?_
          refine ey_iconst (cd_143 rfl) ?_
          refine ey_istore (cd_143 rfl) mt_143 rfl ?_
          obtain ⟨x76, e77, e⟩ := jbind e
          refine jk_143_l69 e77 ?_ (jup (jup (jup (jlf (jla 0 [jR (some this), jI p0, jI p1, jI p2])) 4 (jR (some v5))) 5 (jR (some v18))) 6 (jI 0)) rfl rfl (jup_o rfl (jup_o rfl (jup_pi (lv := (jlf (jla 0 [jR (some this), jI p0, jI p1, jI p2]))) (j := 3) (v := jR (some v5)) (z := p2) rfl))) (jup_o rfl (jup_pr (lv := (jup (jlf (jla 0 [jR (some this), jI p0, jI p1, jI p2])) 4 (jR (some v5)))) (j := 4) (v := jR (some v18)) (z := (some v5)) rfl)) (jup_pr (lv := (jup (jup (jlf (jla 0 [jR (some this), jI p0, jI p1, jI p2])) 4 (jR (some v5))) 5 (jR (some v18)))) (j := 5) (v := jI 0) (z := (some v18)) rfl) rfl
          intro lv g0
          refine ey_aload_n (cd_143 rfl) g0 ?_
          refine ey_dup (cd_143 rfl) rfl ?_
          obtain ⟨v78, e79, e⟩ := jbind e
          refine ey_getf_i (cd_143 rfl) mt_143 rfl rfl rfl e79 ?_
          refine ey_dupx1 (cd_143 rfl) rfl rfl ?_
          refine ey_iconst (cd_143 rfl) ?_
          refine ey_iadd (cd_143 rfl) ?_
          obtain ⟨h80, e81, e⟩ := jbind e
          refine ey_putf_i (cd_143 rfl) mt_143 rfl rfl rfl e81 ?_
          cases e
          exact ey_reti (cd_143 rfl) mt_143 rfl
        · rw [if_neg q13] at e
          refine ey_nle (cd_143 rfl) rfl rfl (show jw 1000 = 1000 from by decide) q13 ?_
          exact jk_143_b35 e (jup (jlf (jla 0 [jR (some this), jI p0, jI p1, jI p2])) 4 (jR (some v5))) 
theorem cd_191 {pc : Nat} {i : Instr × Nat} (h : mm_lk mm_c191 pc = some i) : mm_cd 191 pc = some i := h
theorem mt_191 : mm_MT 191 = (11, 5, some .int, 4, 1, []) := rfl
set_option maxRecDepth 100000 in
theorem jk_191_b34 {L : Nat} {xs : Nat → Int32}  {h : jH} {o : ((Int ⊕ Nat) × jH)} (e : jd_191_b34  h = some o) : ∀ lv : jL, ey (mm_xt L xs) 1 191 34 lv [] h (jres_i o) := by
  intro lv 
  unfold jd_191_b34 at e
  obtain ⟨u13, e14, e⟩ := jbind e
  cases e
  exact ey_throw (st := []) (f := (2, 178, 449, 182, 1)) (cd_191 rfl) mt_191 rfl rfl rfl (j6_s e14) (jsml_s rfl)
set_option maxRecDepth 100000 in
theorem ok_191 {L : Nat} {xs : Nat → Int32} {p0 : Option Nat} {p1 : Int} {p2 : Int} {p3 : Int} {h : jH} {o : ((Int ⊕ Nat) × jH)} (e : jd_191 p0 p1 p2 p3 h = some o) : mm_Runs (mm_xt L xs) 2 191 ([jR p0, jI p1, jI p2, jI p3].map jcv) (jaH h) (jres_i o) := by
  refine ey_run0 _ mt_191 (jsl_s rfl) ?_
  unfold jd_191 at e
  refine ey_iload_n (cd_191 rfl) rfl ?_
  rcases jtb_c e with ⟨v3, h5, e2, e⟩ | ⟨E4, h5, e2, e⟩
  rotate_left
  · cases e
    exact ey_csX (s0 := [jI p1]) (s1 := []) (cd_191 rfl) mt_191 rfl mt_186 rfl rfl rfl (jsml_s rfl) (ok_186 e2)
  refine ey_cs (s0 := [jI p1]) (s1 := []) (st' := []) (cd_191 rfl) mt_191 mt_186 rfl (by decide) rfl rfl (jsml_s rfl) rfl (ok_186 e2) ?_
  refine ey_aload_n (cd_191 rfl) rfl ?_
  refine ey_iload_n (cd_191 rfl) rfl ?_
  obtain ⟨a6, e7, e⟩ := jbind e
  refine ey_rs (s0 := [jI p1, jR p0]) (s1 := [jI p1, jR (some a6)]) (by rw [e7]) ?_
  obtain ⟨u8, e9, e⟩ := jbind e
  obtain ⟨v10, e11, e⟩ := jbind e
  refine ey_cv (s0 := [jI p1, jR (some a6)]) (s1 := []) (st' := [jI v10]) (cd_191 rfl) mt_191 mt_96 rfl rfl rfl (jck_s e9) rfl (jsml_s rfl) rfl (ok_96 e11) ?_
  refine ey_istore (cd_191 rfl) mt_191 rfl ?_
  refine ey_iload_n (cd_191 rfl) rfl ?_
  by_cases q12 : (jw p2) < 0
  · rw [if_pos q12] at e
    refine ey_zlt (cd_191 rfl) rfl rfl q12 ?_
    exact jk_191_b34 e (jup (jlf (jla 0 [jR p0, jI p1, jI p2, jI p3])) 4 (jI v10)) 
  · rw [if_neg q12] at e
    refine ey_ylt (cd_191 rfl) rfl rfl q12 ?_
    refine ey_iload_n (cd_191 rfl) rfl ?_
    refine ey_iload (cd_191 rfl) rfl ?_
    by_cases q15 : (jw v10) ≤ (jw p2)
    · rw [if_pos q15] at e
      refine ey_cge (cd_191 rfl) rfl rfl rfl q15 ?_
      exact jk_191_b34 e (jup (jlf (jla 0 [jR p0, jI p1, jI p2, jI p3])) 4 (jI v10)) 
    · rw [if_neg q15] at e
      refine ey_nge (cd_191 rfl) rfl rfl rfl q15 ?_
      refine ey_iload_n (cd_191 rfl) (jup_pi (lv := (jlf (jla 0 [jR p0, jI p1, jI p2, jI p3]))) (j := 3) (v := jI v10) (z := p3) rfl) ?_
      by_cases q16 : (jw p3) < 0
      · rw [if_pos q16] at e
        refine ey_zlt (cd_191 rfl) rfl rfl q16 ?_
        exact jk_191_b34 e (jup (jlf (jla 0 [jR p0, jI p1, jI p2, jI p3])) 4 (jI v10)) 
      · rw [if_neg q16] at e
        refine ey_ylt (cd_191 rfl) rfl rfl q16 ?_
        refine ey_iload_n (cd_191 rfl) (jup_pi (lv := (jlf (jla 0 [jR p0, jI p1, jI p2, jI p3]))) (j := 3) (v := jI v10) (z := p3) rfl) ?_
        refine ey_aload_n (cd_191 rfl) rfl ?_
        refine ey_iload_n (cd_191 rfl) rfl ?_
        obtain ⟨a17, e18, e⟩ := jbind e
        refine ey_rs (s0 := [jI p1, jR p0, jI p3]) (s1 := [jI p1, jR (some a17), jI p3]) (by rw [e18]) ?_
        obtain ⟨u19, e20, e⟩ := jbind e
        obtain ⟨v21, e22, e⟩ := jbind e
        refine ey_cv (s0 := [jI p1, jR (some a17), jI p3]) (s1 := [jI p3]) (st' := [jI v21, jI p3]) (cd_191 rfl) mt_191 mt_97 rfl rfl rfl (jck_s e20) rfl (jsml_s rfl) rfl (ok_97 e22) ?_
        by_cases q23 : (jw p3) < (jw v21)
        · rw [if_pos q23] at e
          refine ey_clt (cd_191 rfl) rfl rfl rfl q23 ?_
          refine ey_aload_n (cd_191 rfl) rfl ?_
          refine ey_iload_n (cd_191 rfl) rfl ?_
          obtain ⟨a24, e25, e⟩ := jbind e
          refine ey_rs (s0 := [jI p1, jR p0]) (s1 := [jI p1, jR (some a24)]) (by rw [e25]) ?_
          obtain ⟨u26, e27, e⟩ := jbind e
          obtain ⟨v28, e29, e⟩ := jbind e
          refine ey_cv (s0 := [jI p1, jR (some a24)]) (s1 := []) (st' := [jI v28]) (cd_191 rfl) mt_191 mt_98 rfl rfl rfl (jck_s e27) rfl (jsml_s rfl) rfl (ok_98 e29) ?_
          refine ey_iload_n (cd_191 rfl) (jup_pi (lv := (jlf (jla 0 [jR p0, jI p1, jI p2, jI p3]))) (j := 3) (v := jI v10) (z := p3) rfl) ?_
          refine ey_iload (cd_191 rfl) rfl ?_
          refine ey_imul (cd_191 rfl) ?_
          refine ey_iadd (cd_191 rfl) ?_
          refine ey_iload_n (cd_191 rfl) rfl ?_
          refine ey_iadd (cd_191 rfl) ?_
          cases e
          exact ey_reti (cd_191 rfl) mt_191 rfl
        · rw [if_neg q23] at e
          refine ey_nlt (cd_191 rfl) rfl rfl rfl q23 ?_
          exact jk_191_b34 e (jup (jlf (jla 0 [jR p0, jI p1, jI p2, jI p3])) 4 (jI v10)) 
theorem cd_144 {pc : Nat} {i : Instr × Nat} (h : mm_lk mm_c144 pc = some i) : mm_cd 144 pc = some i := h
theorem mt_144 : mm_MT 144 = (11, 9, some .int, 5, 0, []) := rfl
set_option maxRecDepth 100000 in
theorem ok_144 {L : Nat} {xs : Nat → Int32} {this : Nat} {p0 : Int} {p1 : Int} {p2 : Int} {p3 : Int} {p4 : Int} {h : jH} {o : ((Int ⊕ Nat) × jH)} (e : jd_144 this p0 p1 p2 p3 p4 h = some o) : mm_Runs (mm_xt L xs) 3 144 ([jR (some this), jI p0, jI p1, jI p2, jI p3, jI p4].map jcv) (jaH h) (jres_i o) := by
  refine ey_run0 _ mt_144 (jsl_s rfl) ?_
  unfold jd_144 at e
  refine ey_aload_n (cd_144 rfl) rfl ?_
  refine ey_iload_n (cd_144 rfl) rfl ?_
  obtain ⟨u1, e2, e⟩ := jbind e
  rcases jtb_c e with ⟨v5, h7, e4, e⟩ | ⟨E6, h7, e4, e⟩
  rotate_left
  · cases e
    exact ey_cvX (s0 := [jI p0, jR (some this)]) (s1 := []) (cd_144 rfl) mt_144 rfl mt_193 rfl rfl rfl (jck_s e2) rfl (jsml_s rfl) (mm_Runs.up (d := 1) (by decide) (ok_193 e4))
  refine ey_cv (s0 := [jI p0, jR (some this)]) (s1 := []) (st' := [jR (some v5)]) (cd_144 rfl) mt_144 mt_193 rfl rfl rfl (jck_s e2) rfl (jsml_s rfl) rfl (mm_Runs.up (d := 1) (by decide) (ok_193 e4)) ?_
  refine ey_astore (cd_144 rfl) mt_144 rfl ?_
  refine ey_aload (cd_144 rfl) rfl ?_
  refine ey_iload_n (cd_144 rfl) rfl ?_
  refine ey_iload_n (cd_144 rfl) rfl ?_
  refine ey_iload (cd_144 rfl) rfl ?_
  rcases jtb_c e with ⟨v10, h12, e9, e⟩ | ⟨E11, h12, e9, e⟩
  rotate_left
  · cases e
    exact ey_csX (s0 := [jI p3, jI p2, jI p1, jR (some v5)]) (s1 := []) (cd_144 rfl) mt_144 rfl mt_191 rfl rfl rfl (jsml_s rfl) (ok_191 e9)
  refine ey_cs (s0 := [jI p3, jI p2, jI p1, jR (some v5)]) (s1 := []) (st' := [jI v10]) (cd_144 rfl) mt_144 mt_191 rfl (by decide) rfl rfl (jsml_s rfl) rfl (ok_191 e9) ?_
  refine ey_istore (cd_144 rfl) mt_144 rfl ?_
  refine ey_iload (cd_144 rfl) (jup_o rfl (jup_pi (lv := (jlf (jla 0 [jR (some this), jI p0, jI p1, jI p2, jI p3, jI p4]))) (j := 5) (v := jR (some v5)) (z := p4) rfl)) ?_
  rcases jtb_c e with ⟨v15, h17, e14, e⟩ | ⟨E16, h17, e14, e⟩
  rotate_left
  · cases e
    exact ey_csX (s0 := [jI p4]) (s1 := []) (cd_144 rfl) mt_144 rfl mt_184 rfl rfl rfl (jsml_s rfl) (mm_Runs.up (d := 1) (by decide) (ok_184 e14))
  refine ey_cs (s0 := [jI p4]) (s1 := []) (st' := []) (cd_144 rfl) mt_144 mt_184 rfl (by decide) rfl rfl (jsml_s rfl) rfl (mm_Runs.up (d := 1) (by decide) (ok_184 e14)) ?_
  refine ey_aload (cd_144 rfl) (jup_pr (lv := (jup (jlf (jla 0 [jR (some this), jI p0, jI p1, jI p2, jI p3, jI p4])) 6 (jR (some v5)))) (j := 6) (v := jI v10) (z := (some v5)) rfl) ?_
  obtain ⟨r18, e19, e⟩ := jbind e
  refine ey_getf_r (cd_144 rfl) mt_144 rfl rfl rfl e19 ?_
  refine ey_iload (cd_144 rfl) rfl ?_
  obtain ⟨a20, e21, e⟩ := jbind e
  refine ey_rs (s0 := [jI v10, jR r18]) (s1 := [jI v10, jR (some a20)]) (by rw [e21]) ?_
  obtain ⟨v22, e23, e⟩ := jbind e
  refine ey_iald (cd_144 rfl) e23 ?_
  refine ey_istore (cd_144 rfl) mt_144 rfl ?_
  refine ey_aload (cd_144 rfl) (jup_o rfl (jup_pr (lv := (jup (jlf (jla 0 [jR (some this), jI p0, jI p1, jI p2, jI p3, jI p4])) 6 (jR (some v5)))) (j := 6) (v := jI v10) (z := (some v5)) rfl)) ?_
  obtain ⟨r24, e25, e⟩ := jbind e
  refine ey_getf_r (cd_144 rfl) mt_144 rfl rfl rfl e25 ?_
  refine ey_iload (cd_144 rfl) (jup_pi (lv := (jup (jup (jlf (jla 0 [jR (some this), jI p0, jI p1, jI p2, jI p3, jI p4])) 6 (jR (some v5))) 7 (jI v10))) (j := 7) (v := jI v22) (z := v10) rfl) ?_
  refine ey_iload (cd_144 rfl) (jup_o rfl (jup_o rfl (jup_pi (lv := (jlf (jla 0 [jR (some this), jI p0, jI p1, jI p2, jI p3, jI p4]))) (j := 5) (v := jR (some v5)) (z := p4) rfl))) ?_
  obtain ⟨a26, e27, e⟩ := jbind e
  refine ey_rs (s0 := [jI p4, jI v10, jR r24]) (s1 := [jI p4, jI v10, jR (some a26)]) (by rw [e27]) ?_
  obtain ⟨h28, e29, e⟩ := jbind e
  refine ey_iast (cd_144 rfl) e29 ?_
  refine ey_iload (cd_144 rfl) rfl ?_
  cases e
  exact ey_reti (cd_144 rfl) mt_144 rfl
theorem cd_145 {pc : Nat} {i : Instr × Nat} (h : mm_lk mm_c145 pc = some i) : mm_cd 145 pc = some i := h
theorem mt_145 : mm_MT 145 = (11, 6, some .int, 4, 0, []) := rfl
set_option maxRecDepth 100000 in
theorem ok_145 {L : Nat} {xs : Nat → Int32} {this : Nat} {p0 : Int} {p1 : Int} {p2 : Int} {p3 : Int} {h : jH} {o : ((Int ⊕ Nat) × jH)} (e : jd_145 this p0 p1 p2 p3 h = some o) : mm_Runs (mm_xt L xs) 3 145 ([jR (some this), jI p0, jI p1, jI p2, jI p3].map jcv) (jaH h) (jres_i o) := by
  refine ey_run0 _ mt_145 (jsl_s rfl) ?_
  unfold jd_145 at e
  refine ey_aload_n (cd_145 rfl) rfl ?_
  refine ey_iload_n (cd_145 rfl) rfl ?_
  obtain ⟨u1, e2, e⟩ := jbind e
  rcases jtb_c e with ⟨v5, h7, e4, e⟩ | ⟨E6, h7, e4, e⟩
  rotate_left
  · cases e
    exact ey_cvX (s0 := [jI p0, jR (some this)]) (s1 := []) (cd_145 rfl) mt_145 rfl mt_193 rfl rfl rfl (jck_s e2) rfl (jsml_s rfl) (mm_Runs.up (d := 1) (by decide) (ok_193 e4))
  refine ey_cv (s0 := [jI p0, jR (some this)]) (s1 := []) (st' := [jR (some v5)]) (cd_145 rfl) mt_145 mt_193 rfl rfl rfl (jck_s e2) rfl (jsml_s rfl) rfl (mm_Runs.up (d := 1) (by decide) (ok_193 e4)) ?_
  refine ey_astore (cd_145 rfl) mt_145 rfl ?_
  refine ey_aload (cd_145 rfl) rfl ?_
  obtain ⟨r8, e9, e⟩ := jbind e
  refine ey_getf_r (cd_145 rfl) mt_145 rfl rfl rfl e9 ?_
  refine ey_aload (cd_145 rfl) rfl ?_
  refine ey_iload_n (cd_145 rfl) rfl ?_
  refine ey_iload_n (cd_145 rfl) rfl ?_
  refine ey_iload (cd_145 rfl) (jup_pi (lv := (jlf (jla 0 [jR (some this), jI p0, jI p1, jI p2, jI p3]))) (j := 4) (v := jR (some v5)) (z := p3) rfl) ?_
  rcases jtb_c e with ⟨v12, h14, e11, e⟩ | ⟨E13, h14, e11, e⟩
  rotate_left
  · cases e
    exact ey_csX (s0 := [jI p3, jI p2, jI p1, jR (some v5), jR r8]) (s1 := [jR r8]) (cd_145 rfl) mt_145 rfl mt_191 rfl rfl rfl (jsml_s rfl) (ok_191 e11)
  refine ey_cs (s0 := [jI p3, jI p2, jI p1, jR (some v5), jR r8]) (s1 := [jR r8]) (st' := [jI v12, jR r8]) (cd_145 rfl) mt_145 mt_191 rfl (by decide) rfl rfl (jsml_s rfl) rfl (ok_191 e11) ?_
  obtain ⟨a15, e16, e⟩ := jbind e
  refine ey_rs (s0 := [jI v12, jR r8]) (s1 := [jI v12, jR (some a15)]) (by rw [e16]) ?_
  obtain ⟨v17, e18, e⟩ := jbind e
  refine ey_iald (cd_145 rfl) e18 ?_
  cases e
  exact ey_reti (cd_145 rfl) mt_145 rfl
theorem cd_185 {pc : Nat} {i : Instr × Nat} (h : mm_lk mm_c185 pc = some i) : mm_cd 185 pc = some i := h
theorem mt_185 : mm_MT 185 = (11, 2, none, 2, 1, []) := rfl
set_option maxRecDepth 100000 in
theorem jk_185_b9 {L : Nat} {xs : Nat → Int32}  {h : jH} {o : ((Unit ⊕ Nat) × jH)} (e : jd_185_b9  h = some o) : ∀ lv : jL, ey (mm_xt L xs) 0 185 9 lv [] h (jres_v o) := by
  intro lv 
  unfold jd_185_b9 at e
  obtain ⟨u2, e3, e⟩ := jbind e
  cases e
  exact ey_throw (st := []) (f := (0, 85, 434, 89, 1)) (cd_185 rfl) mt_185 rfl rfl rfl (j6_s e3) (jsml_s rfl)
set_option maxRecDepth 100000 in
theorem ok_185 {L : Nat} {xs : Nat → Int32} {p0 : Int} {p1 : Int} {h : jH} {o : ((Unit ⊕ Nat) × jH)} (e : jd_185 p0 p1 h = some o) : mm_Runs (mm_xt L xs) 1 185 ([jI p0, jI p1].map jcv) (jaH h) (jres_v o) := by
  refine ey_run0 _ mt_185 (jsl_s rfl) ?_
  unfold jd_185 at e
  refine ey_iload_n (cd_185 rfl) rfl ?_
  by_cases q1 : (jw p0) < 0
  · rw [if_pos q1] at e
    refine ey_zlt (cd_185 rfl) rfl rfl q1 ?_
    exact jk_185_b9 e (jlf (jla 0 [jI p0, jI p1])) 
  · rw [if_neg q1] at e
    refine ey_ylt (cd_185 rfl) rfl rfl q1 ?_
    refine ey_iload_n (cd_185 rfl) rfl ?_
    refine ey_iload_n (cd_185 rfl) rfl ?_
    by_cases q4 : (jw p0) ≤ (jw p1)
    · rw [if_pos q4] at e
      refine ey_cle (cd_185 rfl) rfl rfl rfl q4 ?_
      cases e
      exact ey_retv (cd_185 rfl) mt_185 rfl
    · rw [if_neg q4] at e
      refine ey_nle (cd_185 rfl) rfl rfl rfl q4 ?_
      exact jk_185_b9 e (jlf (jla 0 [jI p0, jI p1])) 
theorem cd_146 {pc : Nat} {i : Instr × Nat} (h : mm_lk mm_c146 pc = some i) : mm_cd 146 pc = some i := h
theorem mt_146 : mm_MT 146 = (11, 4, some .int, 2, 0, []) := rfl
set_option maxRecDepth 100000 in
theorem jk_146_b26 {L : Nat} {xs : Nat → Int32} {this : Nat} {y0 : Int} {h : jH} {o : ((Int ⊕ Nat) × jH)} (e : jd_146_b26 this y0 h = some o) : ∀ lv : jL, ey (mm_xt L xs) 1 146 26 lv [jI y0] h (jres_i o) := by
  intro lv 
  unfold jd_146_b26 at e
  cases e
  exact ey_reti (cd_146 rfl) mt_146 rfl
set_option maxRecDepth 100000 in
theorem ok_146 {L : Nat} {xs : Nat → Int32} {this : Nat} {p0 : Int} {p1 : Int} {h : jH} {o : ((Int ⊕ Nat) × jH)} (e : jd_146 this p0 p1 h = some o) : mm_Runs (mm_xt L xs) 2 146 ([jR (some this), jI p0, jI p1].map jcv) (jaH h) (jres_i o) := by
  refine ey_run0 _ mt_146 (jsl_s rfl) ?_
  unfold jd_146 at e
  refine ey_aload_n (cd_146 rfl) rfl ?_
  refine ey_iload_n (cd_146 rfl) rfl ?_
  obtain ⟨u1, e2, e⟩ := jbind e
  rcases jtb_c e with ⟨v5, h7, e4, e⟩ | ⟨E6, h7, e4, e⟩
  rotate_left
  · cases e
    exact ey_cvX (s0 := [jI p0, jR (some this)]) (s1 := []) (cd_146 rfl) mt_146 rfl mt_193 rfl rfl rfl (jck_s e2) rfl (jsml_s rfl) (ok_193 e4)
  refine ey_cv (s0 := [jI p0, jR (some this)]) (s1 := []) (st' := [jR (some v5)]) (cd_146 rfl) mt_146 mt_193 rfl rfl rfl (jck_s e2) rfl (jsml_s rfl) rfl (ok_193 e4) ?_
  refine ey_astore_n (cd_146 rfl) mt_146 rfl ?_
  refine ey_iload_n (cd_146 rfl) (jup_pi (lv := (jlf (jla 0 [jR (some this), jI p0, jI p1]))) (j := 2) (v := jR (some v5)) (z := p1) rfl) ?_
  refine ey_iconst (cd_146 rfl) ?_
  rcases jtb_c e with ⟨v10, h12, e9, e⟩ | ⟨E11, h12, e9, e⟩
  rotate_left
  · cases e
    exact ey_csX (s0 := [jI 1, jI p1]) (s1 := []) (cd_146 rfl) mt_146 rfl mt_185 rfl rfl rfl (jsml_s rfl) (ok_185 e9)
  refine ey_cs (s0 := [jI 1, jI p1]) (s1 := []) (st' := []) (cd_146 rfl) mt_146 mt_185 rfl (by decide) rfl rfl (jsml_s rfl) rfl (ok_185 e9) ?_
  refine ey_iload_n (cd_146 rfl) (jup_pi (lv := (jlf (jla 0 [jR (some this), jI p0, jI p1]))) (j := 2) (v := jR (some v5)) (z := p1) rfl) ?_
  by_cases q13 : (jw p1) = 0
  · rw [if_pos q13] at e
    refine ey_yne (cd_146 rfl) rfl rfl (fun w => w q13) ?_
    refine ey_aload_n (cd_146 rfl) rfl ?_
    obtain ⟨v14, e15, e⟩ := jbind e
    refine ey_getf_i (cd_146 rfl) mt_146 rfl rfl rfl e15 ?_
    refine ey_goto (cd_146 rfl) rfl ?_
    exact jk_146_b26 e (jup (jlf (jla 0 [jR (some this), jI p0, jI p1])) 3 (jR (some v5))) 
  · rw [if_neg q13] at e
    refine ey_zne (cd_146 rfl) rfl rfl q13 ?_
    refine ey_aload_n (cd_146 rfl) rfl ?_
    obtain ⟨v16, e17, e⟩ := jbind e
    refine ey_getf_i (cd_146 rfl) mt_146 rfl rfl rfl e17 ?_
    exact jk_146_b26 e (jup (jlf (jla 0 [jR (some this), jI p0, jI p1])) 3 (jR (some v5))) 
theorem cd_147 {pc : Nat} {i : Instr × Nat} (h : mm_lk mm_c147 pc = some i) : mm_cd 147 pc = some i := h
theorem mt_147 : mm_MT 147 = (11, 2, some .int, 1, 0, []) := rfl
set_option maxRecDepth 100000 in
theorem ok_147 {L : Nat} {xs : Nat → Int32} {this : Nat} {p0 : Int} {h : jH} {o : ((Int ⊕ Nat) × jH)} (e : jd_147 this p0 h = some o) : mm_Runs (mm_xt L xs) 1 147 ([jR (some this), jI p0].map jcv) (jaH h) (jres_i o) := by
  refine ey_run0 _ mt_147 (jsl_s rfl) ?_
  unfold jd_147 at e
  refine ey_iload_n (cd_147 rfl) rfl ?_
  by_cases q1 : 0 ≤ (jw p0)
  · rw [if_pos q1] at e
    refine ey_zge (cd_147 rfl) rfl rfl q1 ?_
    refine ey_aload_n (cd_147 rfl) rfl ?_
    refine ey_aload_n (cd_147 rfl) rfl ?_
    obtain ⟨v2, e3, e⟩ := jbind e
    refine ey_getf_i (cd_147 rfl) mt_147 rfl rfl rfl e3 ?_
    refine ey_iload_n (cd_147 rfl) rfl ?_
    refine ey_min (cd_147 rfl) mt_147 rfl (jsml_s rfl) ?_
    obtain ⟨h4, e5, e⟩ := jbind e
    refine ey_putf_i (cd_147 rfl) mt_147 rfl rfl rfl e5 ?_
    refine ey_aload_n (cd_147 rfl) rfl ?_
    obtain ⟨v6, e7, e⟩ := jbind e
    refine ey_getf_i (cd_147 rfl) mt_147 rfl rfl rfl e7 ?_
    cases e
    exact ey_reti (cd_147 rfl) mt_147 rfl
  · rw [if_neg q1] at e
    refine ey_yge (cd_147 rfl) rfl rfl q1 ?_
    obtain ⟨u8, e9, e⟩ := jbind e
    cases e
    exact ey_throw (st := []) (f := (0, 85, 167, 89, 0)) (cd_147 rfl) mt_147 rfl rfl rfl (j6_s e9) (jsml_s rfl)
theorem cd_148 {pc : Nat} {i : Instr × Nat} (h : mm_lk mm_c148 pc = some i) : mm_cd 148 pc = some i := h
theorem mt_148 : mm_MT 148 = (11, 5, some .int, 2, 0, []) := rfl
set_option maxRecDepth 100000 in
theorem jk_148_b11 {L : Nat} {xs : Nat → Int32} {this : Nat}  {h : jH} {o : ((Int ⊕ Nat) × jH)} (e : jd_148_b11 this  h = some o) : ∀ lv : jL, ey (mm_xt L xs) 0 148 11 lv [] h (jres_i o) := by
  intro lv 
  unfold jd_148_b11 at e
  obtain ⟨u2, e3, e⟩ := jbind e
  cases e
  exact ey_throw (st := []) (f := (0, 85, 171, 89, 0)) (cd_148 rfl) mt_148 rfl rfl rfl (j6_s e3) (jsml_s rfl)
set_option maxRecDepth 100000 in
theorem jk_148_s46 {L : Nat} {xs : Nat → Int32} {this : Nat} {x1 : Int} {x3 : Int} {x4 : Int} {h : jH} {o : ((Int × jH) ⊕ jH)} {r : mm_R} (e : jd_148_s46 this x1 x3 x4 h = some o) (K : jsm (fun s => (∀ lv : jL, lv 0 = some (jR (some this)) → lv 1 = some (jJ x1) → lv 3 = some (jI x3) → lv 4 = some (jI s.1) → ey (mm_xt L xs) 0 148 46 lv [] s.2 r)) (fun x => (∀ lv : jL, lv 0 = some (jR (some this)) → ey (mm_xt L xs) 0 148 83 lv [] x r)) o) : ∀ lv : jL, lv 0 = some (jR (some this)) → lv 1 = some (jJ x1) → lv 3 = some (jI x3) → lv 4 = some (jI x4) → ey (mm_xt L xs) 0 148 46 lv [] h r := by
  intro lv f0 f1 f3 f4
  unfold jd_148_s46 at e
  refine ey_iload (cd_148 rfl) f4 ?_
  refine ey_iload_n (cd_148 rfl) f3 ?_
  by_cases q8 : (jw x3) ≤ (jw x4)
  · rw [if_pos q8] at e
    refine ey_cge (cd_148 rfl) rfl rfl rfl q8 ?_
    cases e
    exact K lv f0
  · rw [if_neg q8] at e
    refine ey_nge (cd_148 rfl) rfl rfl rfl q8 ?_
    refine ey_aload_n (cd_148 rfl) f0 ?_
    obtain ⟨r9, e10, e⟩ := jbind e
    refine ey_getf_r (cd_148 rfl) mt_148 rfl rfl rfl e10 ?_
    refine ey_aload_n (cd_148 rfl) f0 ?_
    refine ey_dup (cd_148 rfl) rfl ?_
    obtain ⟨v11, e12, e⟩ := jbind e
    refine ey_getf_i (cd_148 rfl) mt_148 rfl rfl rfl e12 ?_
    refine ey_dupx1 (cd_148 rfl) rfl rfl ?_
    refine ey_iconst (cd_148 rfl) ?_
    refine ey_iadd (cd_148 rfl) ?_
    obtain ⟨h13, e14, e⟩ := jbind e
    refine ey_putf_i (cd_148 rfl) mt_148 rfl rfl rfl e14 ?_
    refine ey_lload_n (cd_148 rfl) f1 ?_
    refine ey_bipush (cd_148 rfl) (by decide) ?_
    refine ey_iload (cd_148 rfl) f4 ?_
    refine ey_imul (cd_148 rfl) ?_
    refine ey_lushr (cd_148 rfl) ?_
    refine ey_l2i (cd_148 rfl) ?_
    refine ey_i2b (cd_148 rfl) ?_
    obtain ⟨a15, e16, e⟩ := jbind e
    refine ey_rs (s0 := [jI (jwb (jlushr x1 (8 * x4))), jI v11, jR r9]) (s1 := [jI (jwb (jlushr x1 (8 * x4))), jI v11, jR (some a15)]) (by rw [e16]) ?_
    obtain ⟨h17, e18, e⟩ := jbind e
    refine ey_bast (cd_148 rfl) e18 ?_
    refine ey_iinc (cd_148 rfl) mt_148 rfl f4 ?_
    refine ey_goto (cd_148 rfl) rfl ?_
    cases e
    exact K (jup lv 4 (jI (x4 + 1))) f0 f1 (jup_pi (lv := lv) (j := 3) (v := jI (x4 + 1)) (z := x3) f3) rfl
theorem jk_148_l46 {L : Nat} {xs : Nat → Int32} {this : Nat} {x1 : Int} {x3 : Int} {x4 : Int} {h : jH} {x : jH} {r : mm_R} (e : jd_148_l46 this x1 x3 x4 h = some x) (K : (∀ lv : jL, lv 0 = some (jR (some this)) → ey (mm_xt L xs) 0 148 83 lv [] x r)) : ∀ lv : jL, lv 0 = some (jR (some this)) → lv 1 = some (jJ x1) → lv 3 = some (jI x3) → lv 4 = some (jI x4) → ey (mm_xt L xs) 0 148 46 lv [] h r := by
  unfold jd_148_l46 at e
  exact jlp_ok2 (P := fun s => ∀ lv : jL, lv 0 = some (jR (some this)) → lv 1 = some (jJ x1) → lv 3 = some (jI x3) → lv 4 = some (jI s.1) → ey (mm_xt L xs) 0 148 46 lv [] s.2 r) (Q := fun x => (∀ lv : jL, lv 0 = some (jR (some this)) → ey (mm_xt L xs) 0 148 83 lv [] x r)) (fun s q hq hk => jk_148_s46 hq hk) jfu _ x e K
set_option maxRecDepth 100000 in
theorem ok_148 {L : Nat} {xs : Nat → Int32} {this : Nat} {p0 : Int} {p1 : Int} {h : jH} {o : ((Int ⊕ Nat) × jH)} (e : jd_148 this p0 p1 h = some o) : mm_Runs (mm_xt L xs) 1 148 ([jR (some this), jJ p0, jI p1].map jcv) (jaH h) (jres_i o) := by
  refine ey_run0 _ mt_148 (jsl_s rfl) ?_
  unfold jd_148 at e
  refine ey_iload_n (cd_148 rfl) rfl ?_
  refine ey_iconst (cd_148 rfl) ?_
  by_cases q1 : (jw p1) < 1
  · rw [if_pos q1] at e
    refine ey_clt (cd_148 rfl) rfl rfl (show jw 1 = 1 from by decide) q1 ?_
    exact jk_148_b11 e (jlf (jla 0 [jR (some this), jJ p0, jI p1])) 
  · rw [if_neg q1] at e
    refine ey_nlt (cd_148 rfl) rfl rfl (show jw 1 = 1 from by decide) q1 ?_
    refine ey_iload_n (cd_148 rfl) rfl ?_
    refine ey_bipush (cd_148 rfl) (by decide) ?_
    by_cases q4 : (jw p1) ≤ 8
    · rw [if_pos q4] at e
      refine ey_cle (cd_148 rfl) rfl rfl (show jw 8 = 8 from by decide) q4 ?_
      refine ey_aload_n (cd_148 rfl) rfl ?_
      obtain ⟨v5, e6, e⟩ := jbind e
      refine ey_getf_i (cd_148 rfl) mt_148 rfl rfl rfl e6 ?_
      refine ey_iload_n (cd_148 rfl) rfl ?_
      refine ey_iadd (cd_148 rfl) ?_
      refine ey_sipush (cd_148 rfl) (by decide) ?_
      by_cases q7 : (jw (v5 + p1)) ≤ 4000
      · rw [if_pos q7] at e
        refine ey_cle (cd_148 rfl) rfl rfl (show jw 4000 = 4000 from by decide) q7 ?_
        refine ey_iconst (cd_148 rfl) ?_
        refine ey_istore (cd_148 rfl) mt_148 rfl ?_
        obtain ⟨x19, e20, e⟩ := jbind e
        refine jk_148_l46 e20 ?_ (jup (jlf (jla 0 [jR (some this), jJ p0, jI p1])) 4 (jI 0)) rfl rfl (jup_pi (lv := (jlf (jla 0 [jR (some this), jJ p0, jI p1]))) (j := 3) (v := jI 0) (z := p1) rfl) rfl
        intro lv g0
        refine ey_aload_n (cd_148 rfl) g0 ?_
        obtain ⟨v21, e22, e⟩ := jbind e
        refine ey_getf_i (cd_148 rfl) mt_148 rfl rfl rfl e22 ?_
        cases e
        exact ey_reti (cd_148 rfl) mt_148 rfl
      · rw [if_neg q7] at e
        refine ey_nle (cd_148 rfl) rfl rfl (show jw 4000 = 4000 from by decide) q7 ?_
        obtain ⟨u23, e24, e⟩ := jbind e
        cases e
        exact ey_throw (st := []) (f := (1, 173, 175, 177, 0)) (cd_148 rfl) mt_148 rfl rfl rfl (j6_s e24) (jsml_s rfl)
    · rw [if_neg q4] at e
      refine ey_nle (cd_148 rfl) rfl rfl (show jw 8 = 8 from by decide) q4 ?_
      exact jk_148_b11 e (jlf (jla 0 [jR (some this), jJ p0, jI p1])) 
theorem cd_149 {pc : Nat} {i : Instr × Nat} (h : mm_lk mm_c149 pc = some i) : mm_cd 149 pc = some i := h
theorem mt_149 : mm_MT 149 = (11, 4, some .int, 2, 0, []) := rfl
set_option maxRecDepth 100000 in
theorem jk_149_b12 {L : Nat} {xs : Nat → Int32} {this : Nat}  {h : jH} {o : ((Int ⊕ Nat) × jH)} (e : jd_149_b12 this  h = some o) : ∀ lv : jL, ey (mm_xt L xs) 0 149 12 lv [] h (jres_i o) := by
  intro lv 
  unfold jd_149_b12 at e
  obtain ⟨u2, e3, e⟩ := jbind e
  cases e
  exact ey_throw (st := []) (f := (2, 178, 180, 182, 0)) (cd_149 rfl) mt_149 rfl rfl rfl (j6_s e3) (jsml_s rfl)
set_option maxRecDepth 100000 in
theorem ok_149 {L : Nat} {xs : Nat → Int32} {this : Nat} {p0 : Int} {p1 : Int} {h : jH} {o : ((Int ⊕ Nat) × jH)} (e : jd_149 this p0 p1 h = some o) : mm_Runs (mm_xt L xs) 1 149 ([jR (some this), jI p0, jI p1].map jcv) (jaH h) (jres_i o) := by
  refine ey_run0 _ mt_149 (jsl_s rfl) ?_
  unfold jd_149 at e
  refine ey_iload_n (cd_149 rfl) rfl ?_
  by_cases q1 : (jw p0) < 0
  · rw [if_pos q1] at e
    refine ey_zlt (cd_149 rfl) rfl rfl q1 ?_
    exact jk_149_b12 e (jlf (jla 0 [jR (some this), jI p0, jI p1])) 
  · rw [if_neg q1] at e
    refine ey_ylt (cd_149 rfl) rfl rfl q1 ?_
    refine ey_iload_n (cd_149 rfl) rfl ?_
    refine ey_aload_n (cd_149 rfl) rfl ?_
    obtain ⟨v4, e5, e⟩ := jbind e
    refine ey_getf_i (cd_149 rfl) mt_149 rfl rfl rfl e5 ?_
    by_cases q6 : (jw p0) < (jw v4)
    · rw [if_pos q6] at e
      refine ey_clt (cd_149 rfl) rfl rfl rfl q6 ?_
      refine ey_aload_n (cd_149 rfl) rfl ?_
      obtain ⟨r7, e8, e⟩ := jbind e
      refine ey_getf_r (cd_149 rfl) mt_149 rfl rfl rfl e8 ?_
      refine ey_iload_n (cd_149 rfl) rfl ?_
      obtain ⟨a9, e10, e⟩ := jbind e
      refine ey_rs (s0 := [jI p0, jR r7]) (s1 := [jI p0, jR (some a9)]) (by rw [e10]) ?_
      obtain ⟨v11, e12, e⟩ := jbind e
      refine ey_bald (cd_149 rfl) e12 ?_
      refine ey_sipush (cd_149 rfl) (by decide) ?_
      refine ey_iand (cd_149 rfl) ?_
      refine ey_istore_n (cd_149 rfl) mt_149 rfl ?_
      refine ey_aload_n (cd_149 rfl) rfl ?_
      obtain ⟨r13, e14, e⟩ := jbind e
      refine ey_getf_r (cd_149 rfl) mt_149 rfl rfl rfl e14 ?_
      refine ey_iload_n (cd_149 rfl) rfl ?_
      refine ey_iload_n (cd_149 rfl) (jup_pi (lv := (jlf (jla 0 [jR (some this), jI p0, jI p1]))) (j := 2) (v := jI (jand v11 255)) (z := p1) rfl) ?_
      refine ey_i2b (cd_149 rfl) ?_
      obtain ⟨a15, e16, e⟩ := jbind e
      refine ey_rs (s0 := [jI (jwb p1), jI p0, jR r13]) (s1 := [jI (jwb p1), jI p0, jR (some a15)]) (by rw [e16]) ?_
      obtain ⟨h17, e18, e⟩ := jbind e
      refine ey_bast (cd_149 rfl) e18 ?_
      refine ey_iload_n (cd_149 rfl) rfl ?_
      cases e
      exact ey_reti (cd_149 rfl) mt_149 rfl
    · rw [if_neg q6] at e
      refine ey_nlt (cd_149 rfl) rfl rfl rfl q6 ?_
      exact jk_149_b12 e (jlf (jla 0 [jR (some this), jI p0, jI p1])) 
theorem cd_150 {pc : Nat} {i : Instr × Nat} (h : mm_lk mm_c150 pc = some i) : mm_cd 150 pc = some i := h
theorem mt_150 : mm_MT 150 = (11, 2, some .int, 1, 0, []) := rfl
set_option maxRecDepth 100000 in
theorem jk_150_b26 {L : Nat} {xs : Nat → Int32} {this : Nat} {y0 : Int} {h : jH} {o : Int} (e : jd_150_b26 this y0 h = some o) : ∀ lv : jL, ey (mm_xt L xs) 0 150 26 lv [jI y0] h (.inl (some (jcv (jI o)), jaH h)) := by
  intro lv 
  unfold jd_150_b26 at e
  cases e
  exact ey_reti (cd_150 rfl) mt_150 rfl
set_option maxRecDepth 100000 in
theorem jk_150_b12 {L : Nat} {xs : Nat → Int32} {this : Nat}  {h : jH} {o : Int} (e : jd_150_b12 this  h = some o) : ∀ lv : jL, ey (mm_xt L xs) 0 150 12 lv [] h (.inl (some (jcv (jI o)), jaH h)) := by
  intro lv 
  unfold jd_150_b12 at e
  refine ey_iconst (cd_150 rfl) ?_
  refine ey_goto (cd_150 rfl) rfl ?_
  exact jk_150_b26 e lv 
set_option maxRecDepth 100000 in
theorem ok_150 {L : Nat} {xs : Nat → Int32} {this : Nat} {p0 : Int} {h : jH} {o : Int} (e : jd_150 this p0 h = some o) : mm_Runs (mm_xt L xs) 1 150 ([jR (some this), jI p0].map jcv) (jaH h) (.inl (some (jcv (jI o)), jaH h)) := by
  refine ey_run0 _ mt_150 (jsl_s rfl) ?_
  unfold jd_150 at e
  refine ey_iload_n (cd_150 rfl) rfl ?_
  by_cases q1 : (jw p0) < 0
  · rw [if_pos q1] at e
    refine ey_zlt (cd_150 rfl) rfl rfl q1 ?_
    exact jk_150_b12 e (jlf (jla 0 [jR (some this), jI p0])) 
  · rw [if_neg q1] at e
    refine ey_ylt (cd_150 rfl) rfl rfl q1 ?_
    refine ey_iload_n (cd_150 rfl) rfl ?_
    refine ey_aload_n (cd_150 rfl) rfl ?_
    obtain ⟨v2, e3, e⟩ := jbind e
    refine ey_getf_i (cd_150 rfl) mt_150 rfl rfl rfl e3 ?_
    by_cases q4 : (jw p0) < (jw v2)
    · rw [if_pos q4] at e
      refine ey_clt (cd_150 rfl) rfl rfl rfl q4 ?_
      refine ey_aload_n (cd_150 rfl) rfl ?_
      obtain ⟨r5, e6, e⟩ := jbind e
      refine ey_getf_r (cd_150 rfl) mt_150 rfl rfl rfl e6 ?_
      refine ey_iload_n (cd_150 rfl) rfl ?_
      obtain ⟨a7, e8, e⟩ := jbind e
      refine ey_rs (s0 := [jI p0, jR r5]) (s1 := [jI p0, jR (some a7)]) (by rw [e8]) ?_
      obtain ⟨v9, e10, e⟩ := jbind e
      refine ey_bald (cd_150 rfl) e10 ?_
      refine ey_sipush (cd_150 rfl) (by decide) ?_
      refine ey_iand (cd_150 rfl) ?_
      exact jk_150_b26 e (jlf (jla 0 [jR (some this), jI p0])) 
    · rw [if_neg q4] at e
      refine ey_nlt (cd_150 rfl) rfl rfl rfl q4 ?_
      exact jk_150_b12 e (jlf (jla 0 [jR (some this), jI p0])) 
theorem cd_151 {pc : Nat} {i : Instr × Nat} (h : mm_lk mm_c151 pc = some i) : mm_cd 151 pc = some i := h
theorem mt_151 : mm_MT 151 = (11, 2, some .int, 0, 0, []) := rfl
set_option maxRecDepth 100000 in
theorem ok_151 {L : Nat} {xs : Nat → Int32} {this : Nat}  {h : jH} {o : (Int × jH)} (e : jd_151 this  h = some o) : mm_Runs (mm_xt L xs) 1 151 ([jR (some this)].map jcv) (jaH h) (.inl (some (jcv (jI o.1)), jaH o.2)) := by
  refine ey_run0 _ mt_151 (jsl_s rfl) ?_
  unfold jd_151 at e
  refine ey_aload_n (cd_151 rfl) rfl ?_
  obtain ⟨v1, e2, e⟩ := jbind e
  refine ey_getf_i (cd_151 rfl) mt_151 rfl rfl rfl e2 ?_
  refine ey_istore_n (cd_151 rfl) mt_151 rfl ?_
  refine ey_aload_n (cd_151 rfl) (jup_pr (lv := (jlf (jla 0 [jR (some this)]))) (j := 0) (v := jI v1) (z := (some this)) rfl) ?_
  refine ey_iconst (cd_151 rfl) ?_
  obtain ⟨h3, e4, e⟩ := jbind e
  refine ey_putf_i (cd_151 rfl) mt_151 rfl rfl rfl e4 ?_
  refine ey_iload_n (cd_151 rfl) rfl ?_
  cases e
  exact ey_reti (cd_151 rfl) mt_151 rfl
theorem cd_152 {pc : Nat} {i : Instr × Nat} (h : mm_lk mm_c152 pc = some i) : mm_cd 152 pc = some i := h
theorem mt_152 : mm_MT 152 = (11, 5, some .int, 2, 0, []) := rfl
set_option maxRecDepth 100000 in
theorem jk_152_b43 {L : Nat} {xs : Nat → Int32} {this : Nat}  {h : jH} {o : ((Int ⊕ Nat) × jH)} (e : jd_152_b43 this  h = some o) : ∀ lv : jL, ey (mm_xt L xs) 1 152 43 lv [] h (jres_i o) := by
  intro lv 
  unfold jd_152_b43 at e
  obtain ⟨u12, e13, e⟩ := jbind e
  cases e
  exact ey_throw (st := []) (f := (0, 85, 189, 89, 0)) (cd_152 rfl) mt_152 rfl rfl rfl (j6_s e13) (jsml_s rfl)
set_option maxRecDepth 100000 in
theorem jk_152_b53 {L : Nat} {xs : Nat → Int32} {this : Nat} {x1 : Int} {x2 : Int} {h : jH} {o : ((Int ⊕ Nat) × jH)} (e : jd_152_b53 this x1 x2 h = some o) : ∀ lv : jL, lv 0 = some (jR (some this)) → lv 1 = some (jI x1) → lv 2 = some (jI x2) → ey (mm_xt L xs) 1 152 53 lv [] h (jres_i o) := by
  intro lv f0 f1 f2
  unfold jd_152_b53 at e
  refine ey_aload_n (cd_152 rfl) f0 ?_
  obtain ⟨r17, e18, e⟩ := jbind e
  refine ey_getf_r (cd_152 rfl) mt_152 rfl rfl rfl e18 ?_
  refine ey_iload_n (cd_152 rfl) f1 ?_
  obtain ⟨a19, e20, e⟩ := jbind e
  refine ey_rs (s0 := [jI x1, jR r17]) (s1 := [jI x1, jR (some a19)]) (by rw [e20]) ?_
  obtain ⟨v21, e22, e⟩ := jbind e
  refine ey_iald (cd_152 rfl) e22 ?_
  refine ey_istore (cd_152 rfl) mt_152 rfl ?_
  refine ey_aload_n (cd_152 rfl) f0 ?_
  obtain ⟨r23, e24, e⟩ := jbind e
  refine ey_getf_r (cd_152 rfl) mt_152 rfl rfl rfl e24 ?_
  refine ey_iload_n (cd_152 rfl) f1 ?_
  refine ey_iload_n (cd_152 rfl) f2 ?_
  obtain ⟨a25, e26, e⟩ := jbind e
  refine ey_rs (s0 := [jI x2, jI x1, jR r23]) (s1 := [jI x2, jI x1, jR (some a25)]) (by rw [e26]) ?_
  obtain ⟨h27, e28, e⟩ := jbind e
  refine ey_iast (cd_152 rfl) e28 ?_
  refine ey_iload (cd_152 rfl) rfl ?_
  cases e
  exact ey_reti (cd_152 rfl) mt_152 rfl
set_option maxRecDepth 100000 in
theorem ok_152 {L : Nat} {xs : Nat → Int32} {this : Nat} {p0 : Int} {p1 : Int} {h : jH} {o : ((Int ⊕ Nat) × jH)} (e : jd_152 this p0 p1 h = some o) : mm_Runs (mm_xt L xs) 2 152 ([jR (some this), jI p0, jI p1].map jcv) (jaH h) (jres_i o) := by
  refine ey_run0 _ mt_152 (jsl_s rfl) ?_
  unfold jd_152 at e
  refine ey_iload_n (cd_152 rfl) rfl ?_
  refine ey_bipush (cd_152 rfl) (by decide) ?_
  rcases jtb_c e with ⟨v3, h5, e2, e⟩ | ⟨E4, h5, e2, e⟩
  rotate_left
  · cases e
    exact ey_csX (s0 := [jI 7, jI p0]) (s1 := []) (cd_152 rfl) mt_152 rfl mt_185 rfl rfl rfl (jsml_s rfl) (ok_185 e2)
  refine ey_cs (s0 := [jI 7, jI p0]) (s1 := []) (st' := []) (cd_152 rfl) mt_152 mt_185 rfl (by decide) rfl rfl (jsml_s rfl) rfl (ok_185 e2) ?_
  refine ey_iload_n (cd_152 rfl) rfl ?_
  refine ey_iconst (cd_152 rfl) ?_
  have K29 : ∀ lv : jL, lv 0 = some (jR (some this)) → lv 1 = some (jI p0) → lv 2 = some (jI p1) → ey (mm_xt L xs) 1 152 20 lv [jI (if (jw p0) = 5 then (if (jw p1) = 0 then 1 else 0) else 0)] h5 (jres_i o) := by
    intro lv g0 g1 g2
    obtain ⟨z6, e7, e⟩ := jbind e
    refine ey_rs (s0 := [jI (if (jw p0) = 5 then (if (jw p1) = 0 then 1 else 0) else 0)]) (s1 := [jI z6]) (by rw [show (if (jw p0) = 5 then (if (jw p1) = 0 then 1 else 0) else 0) = z6 from Option.some.inj e7]) ?_
    refine ey_istore_n (cd_152 rfl) mt_152 rfl ?_
    refine ey_iload_n (cd_152 rfl) rfl ?_
    by_cases q8 : (jw z6) = 0
    · rw [if_pos q8] at e
      refine ey_yne (cd_152 rfl) rfl rfl (fun w => w q8) ?_
      refine ey_iload_n (cd_152 rfl) (jup_pi (lv := lv) (j := 2) (v := jI z6) (z := p1) g2) ?_
      refine ey_gs (cd_152 rfl) mt_152 rfl rfl ?_
      refine ey_iload_n (cd_152 rfl) g1 ?_
      obtain ⟨v9, e10, e⟩ := jbind e
      refine ey_iast_x (cd_152 rfl) (by decide) e10 ?_
      by_cases q11 : (jw p1) < (jw v9)
      · rw [if_pos q11] at e
        refine ey_clt (cd_152 rfl) rfl rfl rfl q11 ?_
        exact jk_152_b43 e (jup lv 3 (jI z6)) 
      · rw [if_neg q11] at e
        refine ey_nlt (cd_152 rfl) rfl rfl rfl q11 ?_
        refine ey_iload_n (cd_152 rfl) (jup_pi (lv := lv) (j := 2) (v := jI z6) (z := p1) g2) ?_
        refine ey_gs (cd_152 rfl) mt_152 rfl rfl ?_
        refine ey_iload_n (cd_152 rfl) g1 ?_
        obtain ⟨v14, e15, e⟩ := jbind e
        refine ey_iast_x (cd_152 rfl) (by decide) e15 ?_
        by_cases q16 : (jw p1) ≤ (jw v14)
        · rw [if_pos q16] at e
          refine ey_cle (cd_152 rfl) rfl rfl rfl q16 ?_
          exact jk_152_b53 e (jup lv 3 (jI z6)) g0 g1 (jup_pi (lv := lv) (j := 2) (v := jI z6) (z := p1) g2)
        · rw [if_neg q16] at e
          refine ey_nle (cd_152 rfl) rfl rfl rfl q16 ?_
          exact jk_152_b43 e (jup lv 3 (jI z6)) 
    · rw [if_neg q8] at e
      refine ey_zne (cd_152 rfl) rfl rfl q8 ?_
      exact jk_152_b53 e (jup lv 3 (jI z6)) g0 g1 (jup_pi (lv := lv) (j := 2) (v := jI z6) (z := p1) g2)
  by_cases q30 : (jw p0) = 5
  · refine ey_nne (cd_152 rfl) rfl rfl (show jw 5 = 5 from by decide) (fun w => w q30) ?_
    refine ey_iload_n (cd_152 rfl) rfl ?_
    by_cases q31 : (jw p1) = 0
    · refine ey_yne (cd_152 rfl) rfl rfl (fun w => w q31) ?_
      refine ey_iconst (cd_152 rfl) ?_
      refine ey_goto (cd_152 rfl) rfl ?_
      exact ey_rs (s0 := [jI 1]) (s1 := [jI (if (jw p0) = 5 then (if (jw p1) = 0 then 1 else 0) else 0)]) (by rw [show ((if (jw p0) = 5 then (if (jw p1) = 0 then 1 else 0) else 0) : Int) = 1 from ((if_pos q30).trans (if_pos q31))]) (K29 (jlf (jla 0 [jR (some this), jI p0, jI p1])) rfl rfl rfl)
    · refine ey_zne (cd_152 rfl) rfl rfl q31 ?_
      refine ey_iconst (cd_152 rfl) ?_
      exact ey_rs (s0 := [jI 0]) (s1 := [jI (if (jw p0) = 5 then (if (jw p1) = 0 then 1 else 0) else 0)]) (by rw [show ((if (jw p0) = 5 then (if (jw p1) = 0 then 1 else 0) else 0) : Int) = 0 from ((if_pos q30).trans (if_neg q31))]) (K29 (jlf (jla 0 [jR (some this), jI p0, jI p1])) rfl rfl rfl)
  · refine ey_cne (cd_152 rfl) rfl rfl (show jw 5 = 5 from by decide) q30 ?_
    refine ey_iconst (cd_152 rfl) ?_
    exact ey_rs (s0 := [jI 0]) (s1 := [jI (if (jw p0) = 5 then (if (jw p1) = 0 then 1 else 0) else 0)]) (by rw [show ((if (jw p0) = 5 then (if (jw p1) = 0 then 1 else 0) else 0) : Int) = 0 from (if_neg q30)]) (K29 (jlf (jla 0 [jR (some this), jI p0, jI p1])) rfl rfl rfl)
theorem cd_153 {pc : Nat} {i : Instr × Nat} (h : mm_lk mm_c153 pc = some i) : mm_cd 153 pc = some i := h
theorem mt_153 : mm_MT 153 = (11, 3, some .int, 1, 0, []) := rfl
set_option maxRecDepth 100000 in
theorem jk_153_b83 {L : Nat} {xs : Nat → Int32} {this : Nat} {x2 : Option Nat} {h : jH} {o : ((Int ⊕ Nat) × jH)} (e : jd_153_b83 this x2 h = some o) : ∀ lv : jL, lv 0 = some (jR (some this)) → lv 2 = some (jR x2) → ey (mm_xt L xs) 2 153 83 lv [] h (jres_i o) := by
  intro lv f0 f2
  unfold jd_153_b83 at e
  refine ey_aload_n (cd_153 rfl) f0 ?_
  obtain ⟨r35, e36, e⟩ := jbind e
  refine ey_getf_r (cd_153 rfl) mt_153 rfl rfl rfl e36 ?_
  refine ey_aload_n (cd_153 rfl) f0 ?_
  obtain ⟨v37, e38, e⟩ := jbind e
  refine ey_getf_i (cd_153 rfl) mt_153 rfl rfl rfl e38 ?_
  obtain ⟨a39, e40, e⟩ := jbind e
  refine ey_rs (s0 := [jI v37, jR r35]) (s1 := [jI v37, jR (some a39)]) (by rw [e40]) ?_
  obtain ⟨r41, e42, e⟩ := jbind e
  refine ey_aald (cd_153 rfl) (by decide) e42 ?_
  refine ey_aload_n (cd_153 rfl) f2 ?_
  obtain ⟨a43, e44, e⟩ := jbind e
  refine ey_rs (s0 := [jR x2, jR r41]) (s1 := [jR x2, jR (some a43)]) (by rw [e44]) ?_
  obtain ⟨u45, e46, e⟩ := jbind e
  obtain ⟨h47, e48, e⟩ := jbind e
  refine ey_cv (s0 := [jR x2, jR (some a43)]) (s1 := []) (st' := []) (cd_153 rfl) mt_153 mt_102 rfl rfl rfl (jck_s e46) rfl (jsml_s rfl) rfl (ok_102 e48) ?_
  refine ey_aload_n (cd_153 rfl) f0 ?_
  refine ey_dup (cd_153 rfl) rfl ?_
  obtain ⟨v49, e50, e⟩ := jbind e
  refine ey_getf_i (cd_153 rfl) mt_153 rfl rfl rfl e50 ?_
  refine ey_iconst (cd_153 rfl) ?_
  refine ey_iadd (cd_153 rfl) ?_
  obtain ⟨h51, e52, e⟩ := jbind e
  refine ey_putf_i (cd_153 rfl) mt_153 rfl rfl rfl e52 ?_
  refine ey_aload_n (cd_153 rfl) f0 ?_
  obtain ⟨v53, e54, e⟩ := jbind e
  refine ey_getf_i (cd_153 rfl) mt_153 rfl rfl rfl e54 ?_
  cases e
  exact ey_reti (cd_153 rfl) mt_153 rfl
set_option maxRecDepth 100000 in
theorem jk_153_b36 {L : Nat} {xs : Nat → Int32} {this : Nat} {x2 : Option Nat} {h : jH} {o : ((Int ⊕ Nat) × jH)} (e : jd_153_b36 this x2 h = some o) : ∀ lv : jL, lv 0 = some (jR (some this)) → lv 2 = some (jR x2) → ey (mm_xt L xs) 2 153 36 lv [] h (jres_i o) := by
  intro lv f0 f2
  unfold jd_153_b36 at e
  refine ey_aload_n (cd_153 rfl) f0 ?_
  obtain ⟨v11, e12, e⟩ := jbind e
  refine ey_getf_i (cd_153 rfl) mt_153 rfl rfl rfl e12 ?_
  refine ey_bipush (cd_153 rfl) (by decide) ?_
  by_cases q13 : (jw v11) < 12
  · rw [if_pos q13] at e
    refine ey_clt (cd_153 rfl) rfl rfl (show jw 12 = 12 from by decide) q13 ?_
    refine ey_aload_n (cd_153 rfl) f0 ?_
    obtain ⟨r14, e15, e⟩ := jbind e
    refine ey_getf_r (cd_153 rfl) mt_153 rfl rfl rfl e15 ?_
    refine ey_aload_n (cd_153 rfl) f0 ?_
    obtain ⟨v16, e17, e⟩ := jbind e
    refine ey_getf_i (cd_153 rfl) mt_153 rfl rfl rfl e17 ?_
    obtain ⟨a18, e19, e⟩ := jbind e
    refine ey_rs (s0 := [jI v16, jR r14]) (s1 := [jI v16, jR (some a18)]) (by rw [e19]) ?_
    obtain ⟨r20, e21, e⟩ := jbind e
    refine ey_aald (cd_153 rfl) (by decide) e21 ?_
    by_cases q22 : r20 = none
    · rw [if_pos q22] at e
      refine ey_rs (s0 := [jR r20]) (s1 := [jR none]) (by rw [q22]) ?_
      refine ey_ifnonnull_n (cd_153 rfl) rfl ?_
      refine ey_aload_n (cd_153 rfl) f0 ?_
      obtain ⟨r23, e24, e⟩ := jbind e
      refine ey_getf_r (cd_153 rfl) mt_153 rfl rfl rfl e24 ?_
      refine ey_aload_n (cd_153 rfl) f0 ?_
      obtain ⟨v25, e26, e⟩ := jbind e
      refine ey_getf_i (cd_153 rfl) mt_153 rfl rfl rfl e26 ?_
      obtain ⟨n27, e28, e⟩ := jbind e
      refine ey_new (cd_153 rfl) mt_153 rfl rfl jdf_6 e28 ?_
      refine ey_dup (cd_153 rfl) rfl ?_
      obtain ⟨h29, e30, e⟩ := jbind e
      refine ey_ci (s0 := [jR (some n27.1), jR (some n27.1), jI v25, jR r23]) (s1 := [jR (some n27.1), jI v25, jR r23]) (st' := [jR (some n27.1), jI v25, jR r23]) (cd_153 rfl) mt_153 mt_94 rfl (by decide) rfl rfl (jsml_s rfl) rfl (mm_Runs.up (d := 1) (by decide) (ok_94 e30)) ?_
      obtain ⟨a31, e32, e⟩ := jbind e
      refine ey_rs (s0 := [jR (some n27.1), jI v25, jR r23]) (s1 := [jR (some n27.1), jI v25, jR (some a31)]) (by rw [e32]) ?_
      obtain ⟨h33, e34, e⟩ := jbind e
      refine ey_aast (cd_153 rfl) (by decide) e34 ?_
      exact jk_153_b83 e lv f0 f2
    · rw [if_neg q22] at e
      obtain ⟨w55, w55e⟩ := Option.ne_none_iff_exists'.mp q22
      refine ey_rs (s0 := [jR r20]) (s1 := [jR (some w55)]) (by rw [w55e]) ?_
      refine ey_ifnonnull_s (cd_153 rfl) rfl ?_
      exact jk_153_b83 e lv f0 f2
  · rw [if_neg q13] at e
    refine ey_nlt (cd_153 rfl) rfl rfl (show jw 12 = 12 from by decide) q13 ?_
    obtain ⟨u56, e57, e⟩ := jbind e
    cases e
    exact ey_throw (st := []) (f := (1, 173, 197, 177, 0)) (cd_153 rfl) mt_153 rfl rfl rfl (j6_s e57) (jsml_s rfl)
set_option maxRecDepth 100000 in
theorem ok_153 {L : Nat} {xs : Nat → Int32} {this : Nat} {p0 : Int} {h : jH} {o : ((Int ⊕ Nat) × jH)} (e : jd_153 this p0 h = some o) : mm_Runs (mm_xt L xs) 3 153 ([jR (some this), jI p0].map jcv) (jaH h) (jres_i o) := by
  refine ey_run0 _ mt_153 (jsl_s rfl) ?_
  unfold jd_153 at e
  refine ey_aload_n (cd_153 rfl) rfl ?_
  refine ey_iload_n (cd_153 rfl) rfl ?_
  obtain ⟨u1, e2, e⟩ := jbind e
  rcases jtb_c e with ⟨v5, h7, e4, e⟩ | ⟨E6, h7, e4, e⟩
  rotate_left
  · cases e
    exact ey_cvX (s0 := [jI p0, jR (some this)]) (s1 := []) (cd_153 rfl) mt_153 rfl mt_193 rfl rfl rfl (jck_s e2) rfl (jsml_s rfl) (mm_Runs.up (d := 1) (by decide) (ok_193 e4))
  refine ey_cv (s0 := [jI p0, jR (some this)]) (s1 := []) (st' := [jR (some v5)]) (cd_153 rfl) mt_153 mt_193 rfl rfl rfl (jck_s e2) rfl (jsml_s rfl) rfl (mm_Runs.up (d := 1) (by decide) (ok_193 e4)) ?_
  refine ey_astore_n (cd_153 rfl) mt_153 rfl ?_
  refine ey_aload_n (cd_153 rfl) rfl ?_
  obtain ⟨v8, e9, e⟩ := jbind e
  refine ey_getf_i (cd_153 rfl) mt_153 rfl rfl rfl e9 ?_
  by_cases q10 : (jw v8) ≤ 0
  · rw [if_pos q10] at e
    refine ey_zle (cd_153 rfl) rfl rfl q10 ?_
    exact jk_153_b36 e (jup (jlf (jla 0 [jR (some this), jI p0])) 2 (jR (some v5))) rfl rfl
  · rw [if_neg q10] at e
    refine ey_yle (cd_153 rfl) rfl rfl q10 ?_
    refine ey_aload_n (cd_153 rfl) rfl ?_
    obtain ⟨r58, e59, e⟩ := jbind e
    refine ey_getf_r (cd_153 rfl) mt_153 rfl rfl rfl e59 ?_
    refine ey_iconst (cd_153 rfl) ?_
    obtain ⟨a60, e61, e⟩ := jbind e
    refine ey_rs (s0 := [jI 0, jR r58]) (s1 := [jI 0, jR (some a60)]) (by rw [e61]) ?_
    obtain ⟨r62, e63, e⟩ := jbind e
    refine ey_aald (cd_153 rfl) (by decide) e63 ?_
    refine ey_aload_n (cd_153 rfl) rfl ?_
    obtain ⟨a64, e65, e⟩ := jbind e
    refine ey_rs (s0 := [jR (some v5), jR r62]) (s1 := [jR (some v5), jR (some a64)]) (by rw [e65]) ?_
    obtain ⟨u66, e67, e⟩ := jbind e
    obtain ⟨v68, e69, e⟩ := jbind e
    refine ey_cv (s0 := [jR (some v5), jR (some a64)]) (s1 := []) (st' := [jI v68]) (cd_153 rfl) mt_153 mt_100 rfl rfl rfl (jck_s e67) rfl (jsml_s rfl) rfl (mm_Runs.up (d := 1) (by decide) (ok_100 e69)) ?_
    by_cases q70 : (jw v68) = 0
    · rw [if_pos q70] at e
      refine ey_yne (cd_153 rfl) rfl rfl (fun w => w q70) ?_
      obtain ⟨u71, e72, e⟩ := jbind e
      cases e
      exact ey_throw (st := []) (f := (0, 85, 195, 89, 0)) (cd_153 rfl) mt_153 rfl rfl rfl (j6_s e72) (jsml_s rfl)
    · rw [if_neg q70] at e
      refine ey_zne (cd_153 rfl) rfl rfl q70 ?_
      exact jk_153_b36 e (jup (jlf (jla 0 [jR (some this), jI p0])) 2 (jR (some v5))) rfl rfl
theorem cd_154 {pc : Nat} {i : Instr × Nat} (h : mm_lk mm_c154 pc = some i) : mm_cd 154 pc = some i := h
theorem mt_154 : mm_MT 154 = (11, 2, some .int, 0, 0, []) := rfl
set_option maxRecDepth 100000 in
theorem ok_154 {L : Nat} {xs : Nat → Int32} {this : Nat}  {h : jH} {o : (Int × jH)} (e : jd_154 this  h = some o) : mm_Runs (mm_xt L xs) 1 154 ([jR (some this)].map jcv) (jaH h) (.inl (some (jcv (jI o.1)), jaH o.2)) := by
  refine ey_run0 _ mt_154 (jsl_s rfl) ?_
  unfold jd_154 at e
  refine ey_aload_n (cd_154 rfl) rfl ?_
  obtain ⟨v1, e2, e⟩ := jbind e
  refine ey_getf_i (cd_154 rfl) mt_154 rfl rfl rfl e2 ?_
  refine ey_istore_n (cd_154 rfl) mt_154 rfl ?_
  refine ey_aload_n (cd_154 rfl) (jup_pr (lv := (jlf (jla 0 [jR (some this)]))) (j := 0) (v := jI v1) (z := (some this)) rfl) ?_
  refine ey_iconst (cd_154 rfl) ?_
  obtain ⟨h3, e4, e⟩ := jbind e
  refine ey_putf_i (cd_154 rfl) mt_154 rfl rfl rfl e4 ?_
  refine ey_iload_n (cd_154 rfl) rfl ?_
  cases e
  exact ey_reti (cd_154 rfl) mt_154 rfl
theorem cd_196 {pc : Nat} {i : Instr × Nat} (h : mm_lk mm_c196 pc = some i) : mm_cd 196 pc = some i := h
theorem mt_196 : mm_MT 196 = (11, 1, some (.object RX2), 0, 0, []) := rfl
set_option maxRecDepth 100000 in
theorem jk_196_b48 {L : Nat} {xs : Nat → Int32} {this : Nat}  {h : jH} {o : ((Nat ⊕ Nat) × jH)} (e : jd_196_b48 this  h = some o) : ∀ lv : jL, lv 0 = some (jR (some this)) → ey (mm_xt L xs) 1 196 48 lv [] h (jres_a o) := by
  intro lv f0
  unfold jd_196_b48 at e
  refine ey_aload_n (cd_196 rfl) f0 ?_
  obtain ⟨r25, e26, e⟩ := jbind e
  refine ey_getf_r (cd_196 rfl) mt_196 rfl rfl rfl e26 ?_
  refine ey_aload_n (cd_196 rfl) f0 ?_
  obtain ⟨v27, e28, e⟩ := jbind e
  refine ey_getf_i (cd_196 rfl) mt_196 rfl rfl rfl e28 ?_
  obtain ⟨a29, e30, e⟩ := jbind e
  refine ey_rs (s0 := [jI v27, jR r25]) (s1 := [jI v27, jR (some a29)]) (by rw [e30]) ?_
  obtain ⟨r31, e32, e⟩ := jbind e
  refine ey_aald (cd_196 rfl) (by decide) e32 ?_
  obtain ⟨a33, e34, e⟩ := jbind e
  refine ey_rs (s0 := [jR r31]) (s1 := [jR (some a33)]) (by rw [e34]) ?_
  cases e
  exact ey_reta (cd_196 rfl) mt_196 rfl
set_option maxRecDepth 100000 in
theorem ok_196 {L : Nat} {xs : Nat → Int32} {this : Nat}  {h : jH} {o : ((Nat ⊕ Nat) × jH)} (e : jd_196 this  h = some o) : mm_Runs (mm_xt L xs) 2 196 ([jR (some this)].map jcv) (jaH h) (jres_a o) := by
  refine ey_run0 _ mt_196 (jsl_s rfl) ?_
  unfold jd_196 at e
  refine ey_aload_n (cd_196 rfl) rfl ?_
  obtain ⟨v1, e2, e⟩ := jbind e
  refine ey_getf_i (cd_196 rfl) mt_196 rfl rfl rfl e2 ?_
  refine ey_bipush (cd_196 rfl) (by decide) ?_
  by_cases q3 : (jw v1) < 8
  · rw [if_pos q3] at e
    refine ey_clt (cd_196 rfl) rfl rfl (show jw 8 = 8 from by decide) q3 ?_
    refine ey_aload_n (cd_196 rfl) rfl ?_
    obtain ⟨r4, e5, e⟩ := jbind e
    refine ey_getf_r (cd_196 rfl) mt_196 rfl rfl rfl e5 ?_
    refine ey_aload_n (cd_196 rfl) rfl ?_
    obtain ⟨v6, e7, e⟩ := jbind e
    refine ey_getf_i (cd_196 rfl) mt_196 rfl rfl rfl e7 ?_
    obtain ⟨a8, e9, e⟩ := jbind e
    refine ey_rs (s0 := [jI v6, jR r4]) (s1 := [jI v6, jR (some a8)]) (by rw [e9]) ?_
    obtain ⟨r10, e11, e⟩ := jbind e
    refine ey_aald (cd_196 rfl) (by decide) e11 ?_
    by_cases q12 : r10 = none
    · rw [if_pos q12] at e
      refine ey_rs (s0 := [jR r10]) (s1 := [jR none]) (by rw [q12]) ?_
      refine ey_ifnonnull_n (cd_196 rfl) rfl ?_
      refine ey_aload_n (cd_196 rfl) rfl ?_
      obtain ⟨r13, e14, e⟩ := jbind e
      refine ey_getf_r (cd_196 rfl) mt_196 rfl rfl rfl e14 ?_
      refine ey_aload_n (cd_196 rfl) rfl ?_
      obtain ⟨v15, e16, e⟩ := jbind e
      refine ey_getf_i (cd_196 rfl) mt_196 rfl rfl rfl e16 ?_
      obtain ⟨n17, e18, e⟩ := jbind e
      refine ey_new (cd_196 rfl) mt_196 rfl rfl jdf_2 e18 ?_
      refine ey_dup (cd_196 rfl) rfl ?_
      obtain ⟨h19, e20, e⟩ := jbind e
      refine ey_ci (s0 := [jR (some n17.1), jR (some n17.1), jI v15, jR r13]) (s1 := [jR (some n17.1), jI v15, jR r13]) (st' := [jR (some n17.1), jI v15, jR r13]) (cd_196 rfl) mt_196 mt_21 rfl (by decide) rfl rfl (jsml_s rfl) rfl (ok_21 e20) ?_
      obtain ⟨a21, e22, e⟩ := jbind e
      refine ey_rs (s0 := [jR (some n17.1), jI v15, jR r13]) (s1 := [jR (some n17.1), jI v15, jR (some a21)]) (by rw [e22]) ?_
      obtain ⟨h23, e24, e⟩ := jbind e
      refine ey_aast (cd_196 rfl) (by decide) e24 ?_
      exact jk_196_b48 e (jlf (jla 0 [jR (some this)])) rfl
    · rw [if_neg q12] at e
      obtain ⟨w35, w35e⟩ := Option.ne_none_iff_exists'.mp q12
      refine ey_rs (s0 := [jR r10]) (s1 := [jR (some w35)]) (by rw [w35e]) ?_
      refine ey_ifnonnull_s (cd_196 rfl) rfl ?_
      exact jk_196_b48 e (jlf (jla 0 [jR (some this)])) rfl
  · rw [if_neg q3] at e
    refine ey_nlt (cd_196 rfl) rfl rfl (show jw 8 = 8 from by decide) q3 ?_
    obtain ⟨u36, e37, e⟩ := jbind e
    cases e
    exact ey_throw (st := []) (f := (1, 173, 455, 177, 1)) (cd_196 rfl) mt_196 rfl rfl rfl (j6_s e37) (jsml_s rfl)
theorem cd_197 {pc : Nat} {i : Instr × Nat} (h : mm_lk mm_c197 pc = some i) : mm_cd 197 pc = some i := h
theorem mt_197 : mm_MT 197 = (11, 4, some .int, 1, 0, []) := rfl
set_option maxRecDepth 100000 in
theorem jk_197_s36 {L : Nat} {xs : Nat → Int32} {this : Nat} {x1 : Option Nat} {x3 : Int} {h : jH} {o : ((Int × jH) ⊕ jH)} {r : mm_R} (e : jd_197_s36 this x1 x3 h = some o) (K : jsm (fun s => (∀ lv : jL, lv 0 = some (jR (some this)) → lv 1 = some (jR x1) → lv 3 = some (jI s.1) → ey (mm_xt L xs) 6 197 36 lv [] s.2 r)) (fun x => (∀ lv : jL, lv 0 = some (jR (some this)) → ey (mm_xt L xs) 6 197 62 lv [] x r)) o) : ∀ lv : jL, lv 0 = some (jR (some this)) → lv 1 = some (jR x1) → lv 3 = some (jI x3) → ey (mm_xt L xs) 6 197 36 lv [] h r := by
  intro lv f0 f1 f3
  unfold jd_197_s36 at e
  refine ey_iload_n (cd_197 rfl) f3 ?_
  refine ey_aload_n (cd_197 rfl) f1 ?_
  obtain ⟨a32, e33, e⟩ := jbind e
  refine ey_rs (s0 := [jR x1, jI x3]) (s1 := [jR (some a32), jI x3]) (by rw [e33]) ?_
  obtain ⟨v34, e35, e⟩ := jbind e
  refine ey_getf_i (cd_197 rfl) mt_197 rfl rfl rfl e35 ?_
  by_cases q36 : (jw v34) ≤ (jw x3)
  · rw [if_pos q36] at e
    refine ey_cge (cd_197 rfl) rfl rfl rfl q36 ?_
    cases e
    exact K lv f0
  · rw [if_neg q36] at e
    refine ey_nge (cd_197 rfl) rfl rfl rfl q36 ?_
    refine ey_aload_n (cd_197 rfl) f0 ?_
    obtain ⟨r37, e38, e⟩ := jbind e
    refine ey_getf_r (cd_197 rfl) mt_197 rfl rfl rfl e38 ?_
    refine ey_aload_n (cd_197 rfl) f1 ?_
    refine ey_aload_n (cd_197 rfl) f1 ?_
    refine ey_iload_n (cd_197 rfl) f3 ?_
    refine ey_iconst (cd_197 rfl) ?_
    refine ey_iconst (cd_197 rfl) ?_
    obtain ⟨a39, e40, e⟩ := jbind e
    refine ey_rs (s0 := [jI 0, jI 0, jI x3, jR x1, jR x1, jR r37]) (s1 := [jI 0, jI 0, jI x3, jR x1, jR x1, jR (some a39)]) (by rw [e40]) ?_
    obtain ⟨u41, e42, e⟩ := jbind e
    obtain ⟨h43, e44, e⟩ := jbind e
    refine ey_cv (s0 := [jI 0, jI 0, jI x3, jR x1, jR x1, jR (some a39)]) (s1 := []) (st' := []) (cd_197 rfl) mt_197 mt_115 rfl rfl rfl (jck_s e42) rfl (jsml_s rfl) rfl (ok_115 e44) ?_
    refine ey_iinc (cd_197 rfl) mt_197 rfl f3 ?_
    refine ey_goto (cd_197 rfl) rfl ?_
    cases e
    exact K (jup lv 3 (jI (x3 + 1))) f0 f1 rfl
theorem jk_197_l36 {L : Nat} {xs : Nat → Int32} {this : Nat} {x1 : Option Nat} {x3 : Int} {h : jH} {x : jH} {r : mm_R} (e : jd_197_l36 this x1 x3 h = some x) (K : (∀ lv : jL, lv 0 = some (jR (some this)) → ey (mm_xt L xs) 6 197 62 lv [] x r)) : ∀ lv : jL, lv 0 = some (jR (some this)) → lv 1 = some (jR x1) → lv 3 = some (jI x3) → ey (mm_xt L xs) 6 197 36 lv [] h r := by
  unfold jd_197_l36 at e
  exact jlp_ok2 (P := fun s => ∀ lv : jL, lv 0 = some (jR (some this)) → lv 1 = some (jR x1) → lv 3 = some (jI s.1) → ey (mm_xt L xs) 6 197 36 lv [] s.2 r) (Q := fun x => (∀ lv : jL, lv 0 = some (jR (some this)) → ey (mm_xt L xs) 6 197 62 lv [] x r)) (fun s q hq hk => jk_197_s36 hq hk) jfu _ x e K
set_option maxRecDepth 100000 in
theorem ok_197 {L : Nat} {xs : Nat → Int32} {this : Nat} {p0 : Option Nat} {h : jH} {o : (Int × jH)} (e : jd_197 this p0 h = some o) : mm_Runs (mm_xt L xs) 7 197 ([jR (some this), jR p0].map jcv) (jaH h) (.inl (some (jcv (jI o.1)), jaH o.2)) := by
  refine ey_run0 _ mt_197 (jsl_s rfl) ?_
  unfold jd_197 at e
  refine ey_aload_n (cd_197 rfl) rfl ?_
  obtain ⟨a1, e2, e⟩ := jbind e
  refine ey_rs (s0 := [jR p0]) (s1 := [jR (some a1)]) (by rw [e2]) ?_
  obtain ⟨u3, e4, e⟩ := jbind e
  obtain ⟨q5, e6, e⟩ := jbind e
  refine ey_cv (s0 := [jR (some a1)]) (s1 := []) (st' := [jI q5.1]) (cd_197 rfl) mt_197 mt_29 rfl rfl rfl (jck_s e4) rfl (jsml_s rfl) rfl (mm_Runs.up (d := 4) (by decide) (ok_29 e6)) ?_
  refine ey_istore_n (cd_197 rfl) mt_197 rfl ?_
  refine ey_iload_n (cd_197 rfl) rfl ?_
  by_cases q7 : (jw q5.1) < 0
  · rw [if_pos q7] at e
    refine ey_zlt (cd_197 rfl) rfl rfl q7 ?_
    refine ey_aload_n (cd_197 rfl) (jup_pr (lv := (jlf (jla 0 [jR (some this), jR p0]))) (j := 1) (v := jI q5.1) (z := p0) rfl) ?_
    obtain ⟨a8, e9, e⟩ := jbind e
    refine ey_rs (s0 := [jR p0]) (s1 := [jR (some a8)]) (by rw [e9]) ?_
    obtain ⟨u10, e11, e⟩ := jbind e
    obtain ⟨h12, e13, e⟩ := jbind e
    refine ey_cv (s0 := [jR (some a8)]) (s1 := []) (st' := []) (cd_197 rfl) mt_197 mt_36 rfl rfl rfl (jck_s e11) rfl (jsml_s rfl) rfl (mm_Runs.up (d := 1) (by decide) (ok_36 e13)) ?_
    refine ey_aload_n (cd_197 rfl) (jup_pr (lv := (jlf (jla 0 [jR (some this), jR p0]))) (j := 1) (v := jI q5.1) (z := p0) rfl) ?_
    refine ey_aload_n (cd_197 rfl) (jup_pr (lv := (jlf (jla 0 [jR (some this), jR p0]))) (j := 1) (v := jI q5.1) (z := p0) rfl) ?_
    obtain ⟨a14, e15, e⟩ := jbind e
    refine ey_rs (s0 := [jR p0, jR p0]) (s1 := [jR (some a14), jR p0]) (by rw [e15]) ?_
    obtain ⟨v16, e17, e⟩ := jbind e
    refine ey_getf_i (cd_197 rfl) mt_197 rfl rfl rfl e17 ?_
    refine ey_aload_n (cd_197 rfl) (jup_pr (lv := (jlf (jla 0 [jR (some this), jR p0]))) (j := 1) (v := jI q5.1) (z := p0) rfl) ?_
    obtain ⟨a18, e19, e⟩ := jbind e
    refine ey_rs (s0 := [jR p0, jI v16, jR p0]) (s1 := [jR (some a18), jI v16, jR p0]) (by rw [e19]) ?_
    obtain ⟨v20, e21, e⟩ := jbind e
    refine ey_getf_i (cd_197 rfl) mt_197 rfl rfl rfl e21 ?_
    refine ey_iconst (cd_197 rfl) ?_
    refine ey_aload_n (cd_197 rfl) (jup_pr (lv := (jlf (jla 0 [jR (some this), jR p0]))) (j := 1) (v := jI q5.1) (z := p0) rfl) ?_
    obtain ⟨a22, e23, e⟩ := jbind e
    refine ey_rs (s0 := [jR p0, jI 0, jI v20, jI v16, jR p0]) (s1 := [jR (some a22), jI 0, jI v20, jI v16, jR p0]) (by rw [e23]) ?_
    obtain ⟨v24, e25, e⟩ := jbind e
    refine ey_getf_i (cd_197 rfl) mt_197 rfl rfl rfl e25 ?_
    obtain ⟨a26, e27, e⟩ := jbind e
    refine ey_rs (s0 := [jI v24, jI 0, jI v20, jI v16, jR p0]) (s1 := [jI v24, jI 0, jI v20, jI v16, jR (some a26)]) (by rw [e27]) ?_
    obtain ⟨u28, e29, e⟩ := jbind e
    obtain ⟨h30, e31, e⟩ := jbind e
    refine ey_cv (s0 := [jI v24, jI 0, jI v20, jI v16, jR (some a26)]) (s1 := []) (st' := []) (cd_197 rfl) mt_197 mt_28 rfl rfl rfl (jck_s e29) rfl (jsml_s rfl) rfl (mm_Runs.up (d := 2) (by decide) (ok_28 e31)) ?_
    refine ey_iconst (cd_197 rfl) ?_
    refine ey_istore_n (cd_197 rfl) mt_197 rfl ?_
    obtain ⟨x45, e46, e⟩ := jbind e
    refine jk_197_l36 e46 ?_ (jup (jup (jlf (jla 0 [jR (some this), jR p0])) 2 (jI q5.1)) 3 (jI 0)) rfl (jup_o rfl (jup_pr (lv := (jlf (jla 0 [jR (some this), jR p0]))) (j := 1) (v := jI q5.1) (z := p0) rfl)) rfl
    intro lv g0
    refine ey_aload_n (cd_197 rfl) g0 ?_
    refine ey_dup (cd_197 rfl) rfl ?_
    obtain ⟨v47, e48, e⟩ := jbind e
    refine ey_getf_i (cd_197 rfl) mt_197 rfl rfl rfl e48 ?_
    refine ey_dupx1 (cd_197 rfl) rfl rfl ?_
    refine ey_iconst (cd_197 rfl) ?_
    refine ey_iadd (cd_197 rfl) ?_
    obtain ⟨h49, e50, e⟩ := jbind e
    refine ey_putf_i (cd_197 rfl) mt_197 rfl rfl rfl e50 ?_
    cases e
    exact ey_reti (cd_197 rfl) mt_197 rfl
  · rw [if_neg q7] at e
    refine ey_ylt (cd_197 rfl) rfl rfl q7 ?_
    refine ey_iconst (cd_197 rfl) ?_
    refine ey_iload_n (cd_197 rfl) rfl ?_
    refine ey_isub (cd_197 rfl) ?_
    cases e
    exact ey_reti (cd_197 rfl) mt_197 rfl
theorem cd_155 {pc : Nat} {i : Instr × Nat} (h : mm_lk mm_c155 pc = some i) : mm_cd 155 pc = some i := h
theorem mt_155 : mm_MT 155 = (11, 3, some .int, 1, 0, []) := rfl
set_option maxRecDepth 100000 in
theorem jk_155_b16 {L : Nat} {xs : Nat → Int32} {this : Nat}  {h : jH} {o : ((Int ⊕ Nat) × jH)} (e : jd_155_b16 this  h = some o) : ∀ lv : jL, ey (mm_xt L xs) 7 155 16 lv [] h (jres_i o) := by
  intro lv 
  unfold jd_155_b16 at e
  obtain ⟨u2, e3, e⟩ := jbind e
  cases e
  exact ey_throw (st := []) (f := (0, 85, 204, 89, 0)) (cd_155 rfl) mt_155 rfl rfl rfl (j6_s e3) (jsml_s rfl)
set_option maxRecDepth 100000 in
theorem jk_155_b105 {L : Nat} {xs : Nat → Int32} {this : Nat} {y0 : Int} {h : jH} {o : ((Int ⊕ Nat) × jH)} (e : jd_155_b105 this y0 h = some o) : ∀ lv : jL, ey (mm_xt L xs) 7 155 105 lv [jI y0] h (jres_i o) := by
  intro lv 
  unfold jd_155_b105 at e
  cases e
  exact ey_reti (cd_155 rfl) mt_155 rfl
set_option maxRecDepth 100000 in
theorem jk_155_b84 {L : Nat} {xs : Nat → Int32} {this : Nat} {x1 : Int} {x2 : Option Nat} {h : jH} {o : ((Int ⊕ Nat) × jH)} (e : jd_155_b84 this x1 x2 h = some o) : ∀ lv : jL, lv 0 = some (jR (some this)) → lv 1 = some (jI x1) → lv 2 = some (jR x2) → ey (mm_xt L xs) 7 155 84 lv [] h (jres_i o) := by
  intro lv f0 f1 f2
  unfold jd_155_b84 at e
  refine ey_aload_n (cd_155 rfl) f0 ?_
  obtain ⟨r45, e46, e⟩ := jbind e
  refine ey_getf_r (cd_155 rfl) mt_155 rfl rfl rfl e46 ?_
  refine ey_aload_n (cd_155 rfl) f2 ?_
  refine ey_iload_n (cd_155 rfl) f1 ?_
  obtain ⟨a47, e48, e⟩ := jbind e
  refine ey_rs (s0 := [jI x1, jR x2, jR r45]) (s1 := [jI x1, jR x2, jR (some a47)]) (by rw [e48]) ?_
  obtain ⟨u49, e50, e⟩ := jbind e
  obtain ⟨q51, e52, e⟩ := jbind e
  refine ey_cv (s0 := [jI x1, jR x2, jR (some a47)]) (s1 := []) (st' := [jI q51.1]) (cd_155 rfl) mt_155 mt_65 rfl rfl rfl (jck_s e50) rfl (jsml_s rfl) rfl (ok_65 e52) ?_
  by_cases q53 : (jw q51.1) = 0
  · rw [if_pos q53] at e
    refine ey_zeq (cd_155 rfl) rfl rfl q53 ?_
    refine ey_iconst (cd_155 rfl) ?_
    exact jk_155_b105 e lv 
  · rw [if_neg q53] at e
    refine ey_yeq (cd_155 rfl) rfl rfl q53 ?_
    refine ey_aload_n (cd_155 rfl) f0 ?_
    refine ey_aload_n (cd_155 rfl) f2 ?_
    obtain ⟨u54, e55, e⟩ := jbind e
    obtain ⟨q56, e57, e⟩ := jbind e
    refine ey_cv (s0 := [jR x2, jR (some this)]) (s1 := []) (st' := [jI q56.1]) (cd_155 rfl) mt_155 mt_197 rfl rfl rfl (jck_s e55) rfl (jsml_s rfl) rfl (ok_197 e57) ?_
    refine ey_goto (cd_155 rfl) rfl ?_
    exact jk_155_b105 e lv 
set_option maxRecDepth 100000 in
theorem jk_155_b76 {L : Nat} {xs : Nat → Int32} {this : Nat} {x1 : Int} {x2 : Option Nat} {h : jH} {o : ((Int ⊕ Nat) × jH)} (e : jd_155_b76 this x1 x2 h = some o) : ∀ lv : jL, lv 0 = some (jR (some this)) → lv 1 = some (jI x1) → lv 2 = some (jR x2) → ey (mm_xt L xs) 7 155 76 lv [] h (jres_i o) := by
  intro lv f0 f1 f2
  unfold jd_155_b76 at e
  refine ey_aload_n (cd_155 rfl) f0 ?_
  obtain ⟨r58, e59, e⟩ := jbind e
  refine ey_getf_r (cd_155 rfl) mt_155 rfl rfl rfl e59 ?_
  refine ey_iload_n (cd_155 rfl) f1 ?_
  obtain ⟨a60, e61, e⟩ := jbind e
  refine ey_rs (s0 := [jI x1, jR r58]) (s1 := [jI x1, jR (some a60)]) (by rw [e61]) ?_
  obtain ⟨u62, e63, e⟩ := jbind e
  obtain ⟨h64, e65, e⟩ := jbind e
  refine ey_cv (s0 := [jI x1, jR (some a60)]) (s1 := []) (st' := []) (cd_155 rfl) mt_155 mt_61 rfl rfl rfl (jck_s e63) rfl (jsml_s rfl) rfl (mm_Runs.up (d := 1) (by decide) (ok_61 e65)) ?_
  exact jk_155_b84 e lv f0 f1 f2
set_option maxRecDepth 100000 in
theorem ok_155 {L : Nat} {xs : Nat → Int32} {this : Nat} {p0 : Int} {h : jH} {o : ((Int ⊕ Nat) × jH)} (e : jd_155 this p0 h = some o) : mm_Runs (mm_xt L xs) 8 155 ([jR (some this), jI p0].map jcv) (jaH h) (jres_i o) := by
  refine ey_run0 _ mt_155 (jsl_s rfl) ?_
  unfold jd_155 at e
  refine ey_iload_n (cd_155 rfl) rfl ?_
  by_cases q1 : (jw p0) < 0
  · rw [if_pos q1] at e
    refine ey_zlt (cd_155 rfl) rfl rfl q1 ?_
    exact jk_155_b16 e (jlf (jla 0 [jR (some this), jI p0])) 
  · rw [if_neg q1] at e
    refine ey_ylt (cd_155 rfl) rfl rfl q1 ?_
    refine ey_iload_n (cd_155 rfl) rfl ?_
    refine ey_iconst (cd_155 rfl) ?_
    by_cases q4 : 2 < (jw p0)
    · rw [if_pos q4] at e
      refine ey_cgt (cd_155 rfl) rfl rfl (show jw 2 = 2 from by decide) q4 ?_
      exact jk_155_b16 e (jlf (jla 0 [jR (some this), jI p0])) 
    · rw [if_neg q4] at e
      refine ey_ngt (cd_155 rfl) rfl rfl (show jw 2 = 2 from by decide) q4 ?_
      refine ey_aload_n (cd_155 rfl) rfl ?_
      obtain ⟨v5, e6, e⟩ := jbind e
      refine ey_getf_i (cd_155 rfl) mt_155 rfl rfl rfl e6 ?_
      by_cases q7 : (jw v5) = 0
      · rw [if_pos q7] at e
        refine ey_yne (cd_155 rfl) rfl rfl (fun w => w q7) ?_
        exact jk_155_b16 e (jlf (jla 0 [jR (some this), jI p0])) 
      · rw [if_neg q7] at e
        refine ey_zne (cd_155 rfl) rfl rfl q7 ?_
        refine ey_aload_n (cd_155 rfl) rfl ?_
        obtain ⟨u8, e9, e⟩ := jbind e
        rcases jtb_c e with ⟨v12, h14, e11, e⟩ | ⟨E13, h14, e11, e⟩
        rotate_left
        · cases e
          exact ey_cvX (s0 := [jR (some this)]) (s1 := []) (cd_155 rfl) mt_155 rfl mt_196 rfl rfl rfl (jck_s e9) rfl (jsml_s rfl) (mm_Runs.up (d := 2) (by decide) (ok_196 e11))
        refine ey_cv (s0 := [jR (some this)]) (s1 := []) (st' := [jR (some v12)]) (cd_155 rfl) mt_155 mt_196 rfl rfl rfl (jck_s e9) rfl (jsml_s rfl) rfl (mm_Runs.up (d := 2) (by decide) (ok_196 e11)) ?_
        refine ey_astore_n (cd_155 rfl) mt_155 rfl ?_
        refine ey_aload_n (cd_155 rfl) rfl ?_
        obtain ⟨r15, e16, e⟩ := jbind e
        refine ey_getf_r (cd_155 rfl) mt_155 rfl rfl rfl e16 ?_
        refine ey_aload_n (cd_155 rfl) rfl ?_
        obtain ⟨r17, e18, e⟩ := jbind e
        refine ey_getf_r (cd_155 rfl) mt_155 rfl rfl rfl e18 ?_
        refine ey_aload_n (cd_155 rfl) rfl ?_
        obtain ⟨v19, e20, e⟩ := jbind e
        refine ey_getf_i (cd_155 rfl) mt_155 rfl rfl rfl e20 ?_
        refine ey_aload_n (cd_155 rfl) rfl ?_
        obtain ⟨r21, e22, e⟩ := jbind e
        refine ey_getf_r (cd_155 rfl) mt_155 rfl rfl rfl e22 ?_
        obtain ⟨a23, e24, e⟩ := jbind e
        refine ey_rs (s0 := [jR r21, jI v19, jR r17, jR r15]) (s1 := [jR r21, jI v19, jR r17, jR (some a23)]) (by rw [e24]) ?_
        obtain ⟨u25, e26, e⟩ := jbind e
        obtain ⟨h27, e28, e⟩ := jbind e
        refine ey_cv (s0 := [jR r21, jI v19, jR r17, jR (some a23)]) (s1 := []) (st' := []) (cd_155 rfl) mt_155 mt_60 rfl rfl rfl (jck_s e26) rfl (jsml_s rfl) rfl (mm_Runs.up (d := 1) (by decide) (ok_60 e28)) ?_
        refine ey_iload_n (cd_155 rfl) (jup_pi (lv := (jlf (jla 0 [jR (some this), jI p0]))) (j := 1) (v := jR (some v12)) (z := p0) rfl) ?_
        by_cases q29 : (jw p0) = 0
        · rw [if_pos q29] at e
          refine ey_yne (cd_155 rfl) rfl rfl (fun w => w q29) ?_
          refine ey_aload_n (cd_155 rfl) rfl ?_
          obtain ⟨r30, e31, e⟩ := jbind e
          refine ey_getf_r (cd_155 rfl) mt_155 rfl rfl rfl e31 ?_
          refine ey_bipush (cd_155 rfl) (by decide) ?_
          obtain ⟨a32, e33, e⟩ := jbind e
          refine ey_rs (s0 := [jI 7, jR r30]) (s1 := [jI 7, jR (some a32)]) (by rw [e33]) ?_
          obtain ⟨v34, e35, e⟩ := jbind e
          refine ey_iald (cd_155 rfl) e35 ?_
          refine ey_iconst (cd_155 rfl) ?_
          by_cases q36 : (jw v34) = 1
          · rw [if_pos q36] at e
            refine ey_nne (cd_155 rfl) rfl rfl (show jw 1 = 1 from by decide) (fun w => w q36) ?_
            refine ey_aload_n (cd_155 rfl) rfl ?_
            obtain ⟨r37, e38, e⟩ := jbind e
            refine ey_getf_r (cd_155 rfl) mt_155 rfl rfl rfl e38 ?_
            refine ey_aload_n (cd_155 rfl) rfl ?_
            obtain ⟨a39, e40, e⟩ := jbind e
            refine ey_rs (s0 := [jR (some v12), jR r37]) (s1 := [jR (some v12), jR (some a39)]) (by rw [e40]) ?_
            obtain ⟨u41, e42, e⟩ := jbind e
            obtain ⟨h43, e44, e⟩ := jbind e
            refine ey_cv (s0 := [jR (some v12), jR (some a39)]) (s1 := []) (st' := []) (cd_155 rfl) mt_155 mt_62 rfl rfl rfl (jck_s e42) rfl (jsml_s rfl) rfl (ok_62 e44) ?_
            refine ey_goto (cd_155 rfl) rfl ?_
            exact jk_155_b84 e (jup (jlf (jla 0 [jR (some this), jI p0])) 2 (jR (some v12))) rfl (jup_pi (lv := (jlf (jla 0 [jR (some this), jI p0]))) (j := 1) (v := jR (some v12)) (z := p0) rfl) rfl
          · rw [if_neg q36] at e
            refine ey_cne (cd_155 rfl) rfl rfl (show jw 1 = 1 from by decide) q36 ?_
            exact jk_155_b76 e (jup (jlf (jla 0 [jR (some this), jI p0])) 2 (jR (some v12))) rfl (jup_pi (lv := (jlf (jla 0 [jR (some this), jI p0]))) (j := 1) (v := jR (some v12)) (z := p0) rfl) rfl
        · rw [if_neg q29] at e
          refine ey_zne (cd_155 rfl) rfl rfl q29 ?_
          exact jk_155_b76 e (jup (jlf (jla 0 [jR (some this), jI p0])) 2 (jR (some v12))) rfl (jup_pi (lv := (jlf (jla 0 [jR (some this), jI p0]))) (j := 1) (v := jR (some v12)) (z := p0) rfl) rfl
theorem cd_156 {pc : Nat} {i : Instr × Nat} (h : mm_lk mm_c156 pc = some i) : mm_cd 156 pc = some i := h
theorem mt_156 : mm_MT 156 = (11, 3, some .int, 0, 0, []) := rfl
set_option maxRecDepth 100000 in
theorem ok_156 {L : Nat} {xs : Nat → Int32} {this : Nat}  {h : jH} {o : ((Int ⊕ Nat) × jH)} (e : jd_156 this  h = some o) : mm_Runs (mm_xt L xs) 8 156 ([jR (some this)].map jcv) (jaH h) (jres_i o) := by
  refine ey_run0 _ mt_156 (jsl_s rfl) ?_
  unfold jd_156 at e
  refine ey_aload_n (cd_156 rfl) rfl ?_
  obtain ⟨u1, e2, e⟩ := jbind e
  rcases jtb_c e with ⟨v5, h7, e4, e⟩ | ⟨E6, h7, e4, e⟩
  rotate_left
  · cases e
    exact ey_cvX (s0 := [jR (some this)]) (s1 := []) (cd_156 rfl) mt_156 rfl mt_196 rfl rfl rfl (jck_s e2) rfl (jsml_s rfl) (mm_Runs.up (d := 2) (by decide) (ok_196 e4))
  refine ey_cv (s0 := [jR (some this)]) (s1 := []) (st' := [jR (some v5)]) (cd_156 rfl) mt_156 mt_196 rfl rfl rfl (jck_s e2) rfl (jsml_s rfl) rfl (mm_Runs.up (d := 2) (by decide) (ok_196 e4)) ?_
  refine ey_astore_n (cd_156 rfl) mt_156 rfl ?_
  refine ey_aload_n (cd_156 rfl) (jup_pr (lv := (jlf (jla 0 [jR (some this)]))) (j := 0) (v := jR (some v5)) (z := (some this)) rfl) ?_
  obtain ⟨v8, e9, e⟩ := jbind e
  refine ey_getf_i (cd_156 rfl) mt_156 rfl rfl rfl e9 ?_
  refine ey_istore_n (cd_156 rfl) mt_156 rfl ?_
  refine ey_aload_n (cd_156 rfl) (jup_o rfl (jup_pr (lv := (jlf (jla 0 [jR (some this)]))) (j := 0) (v := jR (some v5)) (z := (some this)) rfl)) ?_
  refine ey_iconst (cd_156 rfl) ?_
  obtain ⟨h10, e11, e⟩ := jbind e
  refine ey_putf_i (cd_156 rfl) mt_156 rfl rfl rfl e11 ?_
  refine ey_aload_n (cd_156 rfl) (jup_pr (lv := (jup (jlf (jla 0 [jR (some this)])) 1 (jR (some v5)))) (j := 1) (v := jI v8) (z := (some v5)) rfl) ?_
  obtain ⟨u12, e13, e⟩ := jbind e
  obtain ⟨h14, e15, e⟩ := jbind e
  refine ey_cv (s0 := [jR (some v5)]) (s1 := []) (st' := []) (cd_156 rfl) mt_156 mt_22 rfl rfl rfl (jck_s e13) rfl (jsml_s rfl) rfl (mm_Runs.up (d := 1) (by decide) (ok_22 e15)) ?_
  refine ey_aload_n (cd_156 rfl) (jup_pr (lv := (jup (jlf (jla 0 [jR (some this)])) 1 (jR (some v5)))) (j := 1) (v := jI v8) (z := (some v5)) rfl) ?_
  refine ey_aload_n (cd_156 rfl) (jup_o rfl (jup_pr (lv := (jlf (jla 0 [jR (some this)]))) (j := 0) (v := jR (some v5)) (z := (some this)) rfl)) ?_
  obtain ⟨r16, e17, e⟩ := jbind e
  refine ey_getf_r (cd_156 rfl) mt_156 rfl rfl rfl e17 ?_
  refine ey_iconst (cd_156 rfl) ?_
  refine ey_iload_n (cd_156 rfl) rfl ?_
  obtain ⟨u18, e19, e⟩ := jbind e
  obtain ⟨h20, e21, e⟩ := jbind e
  refine ey_cv (s0 := [jI v8, jI 0, jR r16, jR (some v5)]) (s1 := []) (st' := []) (cd_156 rfl) mt_156 mt_23 rfl rfl rfl (jck_s e19) rfl (jsml_s rfl) rfl (mm_Runs.up (d := 2) (by decide) (ok_23 e21)) ?_
  refine ey_aload_n (cd_156 rfl) (jup_o rfl (jup_pr (lv := (jlf (jla 0 [jR (some this)]))) (j := 0) (v := jR (some v5)) (z := (some this)) rfl)) ?_
  refine ey_aload_n (cd_156 rfl) (jup_pr (lv := (jup (jlf (jla 0 [jR (some this)])) 1 (jR (some v5)))) (j := 1) (v := jI v8) (z := (some v5)) rfl) ?_
  obtain ⟨u22, e23, e⟩ := jbind e
  obtain ⟨q24, e25, e⟩ := jbind e
  refine ey_cv (s0 := [jR (some v5), jR (some this)]) (s1 := []) (st' := [jI q24.1]) (cd_156 rfl) mt_156 mt_197 rfl rfl rfl (jck_s e23) rfl (jsml_s rfl) rfl (ok_197 e25) ?_
  cases e
  exact ey_reti (cd_156 rfl) mt_156 rfl
theorem cd_195 {pc : Nat} {i : Instr × Nat} (h : mm_lk mm_c195 pc = some i) : mm_cd 195 pc = some i := h
theorem mt_195 : mm_MT 195 = (11, 2, some (.object RX2), 1, 0, []) := rfl
set_option maxRecDepth 100000 in
theorem jk_195_b12 {L : Nat} {xs : Nat → Int32} {this : Nat}  {h : jH} {o : ((Nat ⊕ Nat) × jH)} (e : jd_195_b12 this  h = some o) : ∀ lv : jL, ey (mm_xt L xs) 0 195 12 lv [] h (jres_a o) := by
  intro lv 
  unfold jd_195_b12 at e
  obtain ⟨u2, e3, e⟩ := jbind e
  cases e
  exact ey_throw (st := []) (f := (2, 178, 453, 182, 1)) (cd_195 rfl) mt_195 rfl rfl rfl (j6_s e3) (jsml_s rfl)
set_option maxRecDepth 100000 in
theorem ok_195 {L : Nat} {xs : Nat → Int32} {this : Nat} {p0 : Int} {h : jH} {o : ((Nat ⊕ Nat) × jH)} (e : jd_195 this p0 h = some o) : mm_Runs (mm_xt L xs) 1 195 ([jR (some this), jI p0].map jcv) (jaH h) (jres_a o) := by
  refine ey_run0 _ mt_195 (jsl_s rfl) ?_
  unfold jd_195 at e
  refine ey_iload_n (cd_195 rfl) rfl ?_
  by_cases q1 : (jw p0) < 0
  · rw [if_pos q1] at e
    refine ey_zlt (cd_195 rfl) rfl rfl q1 ?_
    exact jk_195_b12 e (jlf (jla 0 [jR (some this), jI p0])) 
  · rw [if_neg q1] at e
    refine ey_ylt (cd_195 rfl) rfl rfl q1 ?_
    refine ey_iload_n (cd_195 rfl) rfl ?_
    refine ey_aload_n (cd_195 rfl) rfl ?_
    obtain ⟨v4, e5, e⟩ := jbind e
    refine ey_getf_i (cd_195 rfl) mt_195 rfl rfl rfl e5 ?_
    by_cases q6 : (jw p0) < (jw v4)
    · rw [if_pos q6] at e
      refine ey_clt (cd_195 rfl) rfl rfl rfl q6 ?_
      refine ey_aload_n (cd_195 rfl) rfl ?_
      obtain ⟨r7, e8, e⟩ := jbind e
      refine ey_getf_r (cd_195 rfl) mt_195 rfl rfl rfl e8 ?_
      refine ey_iload_n (cd_195 rfl) rfl ?_
      obtain ⟨a9, e10, e⟩ := jbind e
      refine ey_rs (s0 := [jI p0, jR r7]) (s1 := [jI p0, jR (some a9)]) (by rw [e10]) ?_
      obtain ⟨r11, e12, e⟩ := jbind e
      refine ey_aald (cd_195 rfl) (by decide) e12 ?_
      obtain ⟨a13, e14, e⟩ := jbind e
      refine ey_rs (s0 := [jR r11]) (s1 := [jR (some a13)]) (by rw [e14]) ?_
      cases e
      exact ey_reta (cd_195 rfl) mt_195 rfl
    · rw [if_neg q6] at e
      refine ey_nlt (cd_195 rfl) rfl rfl rfl q6 ?_
      exact jk_195_b12 e (jlf (jla 0 [jR (some this), jI p0])) 
theorem cd_157 {pc : Nat} {i : Instr × Nat} (h : mm_lk mm_c157 pc = some i) : mm_cd 157 pc = some i := h
theorem mt_157 : mm_MT 157 = (11, 3, some .int, 1, 0, []) := rfl
set_option maxRecDepth 100000 in
theorem ok_157 {L : Nat} {xs : Nat → Int32} {this : Nat} {p0 : Int} {h : jH} {o : ((Int ⊕ Nat) × jH)} (e : jd_157 this p0 h = some o) : mm_Runs (mm_xt L xs) 2 157 ([jR (some this), jI p0].map jcv) (jaH h) (jres_i o) := by
  refine ey_run0 _ mt_157 (jsl_s rfl) ?_
  unfold jd_157 at e
  refine ey_aload_n (cd_157 rfl) rfl ?_
  refine ey_iload_n (cd_157 rfl) rfl ?_
  obtain ⟨u1, e2, e⟩ := jbind e
  rcases jtb_c e with ⟨v5, h7, e4, e⟩ | ⟨E6, h7, e4, e⟩
  rotate_left
  · cases e
    exact ey_cvX (s0 := [jI p0, jR (some this)]) (s1 := []) (cd_157 rfl) mt_157 rfl mt_195 rfl rfl rfl (jck_s e2) rfl (jsml_s rfl) (ok_195 e4)
  refine ey_cv (s0 := [jI p0, jR (some this)]) (s1 := []) (st' := [jR (some v5)]) (cd_157 rfl) mt_157 mt_195 rfl rfl rfl (jck_s e2) rfl (jsml_s rfl) rfl (ok_195 e4) ?_
  refine ey_astore_n (cd_157 rfl) mt_157 rfl ?_
  refine ey_aload_n (cd_157 rfl) rfl ?_
  obtain ⟨v8, e9, e⟩ := jbind e
  refine ey_getf_i (cd_157 rfl) mt_157 rfl rfl rfl e9 ?_
  refine ey_sipush (cd_157 rfl) (by decide) ?_
  by_cases q10 : (jw v8) ≤ 4000
  · rw [if_pos q10] at e
    refine ey_cle (cd_157 rfl) rfl rfl (show jw 4000 = 4000 from by decide) q10 ?_
    refine ey_aload_n (cd_157 rfl) rfl ?_
    obtain ⟨r11, e12, e⟩ := jbind e
    refine ey_getf_r (cd_157 rfl) mt_157 rfl rfl rfl e12 ?_
    refine ey_iconst (cd_157 rfl) ?_
    refine ey_aload_n (cd_157 rfl) rfl ?_
    obtain ⟨r13, e14, e⟩ := jbind e
    refine ey_getf_r (cd_157 rfl) mt_157 rfl rfl rfl e14 ?_
    refine ey_iconst (cd_157 rfl) ?_
    refine ey_aload_n (cd_157 rfl) rfl ?_
    obtain ⟨v15, e16, e⟩ := jbind e
    refine ey_getf_i (cd_157 rfl) mt_157 rfl rfl rfl e16 ?_
    obtain ⟨a17, e18, e⟩ := jbind e
    refine ey_rs (s0 := [jI v15, jI 0, jR r13, jI 0, jR r11]) (s1 := [jI v15, jI 0, jR (some a17), jI 0, jR r11]) (by rw [e18]) ?_
    obtain ⟨a19, e20, e⟩ := jbind e
    refine ey_rs (s0 := [jI v15, jI 0, jR (some a17), jI 0, jR r11]) (s1 := [jI v15, jI 0, jR (some a17), jI 0, jR (some a19)]) (by rw [e20]) ?_
    obtain ⟨h21, e22, e⟩ := jbind e
    refine ey_cpy (cd_157 rfl) mt_157 rfl (jsml_s rfl) e22 ?_
    refine ey_aload_n (cd_157 rfl) rfl ?_
    refine ey_aload_n (cd_157 rfl) rfl ?_
    obtain ⟨v23, e24, e⟩ := jbind e
    refine ey_getf_i (cd_157 rfl) mt_157 rfl rfl rfl e24 ?_
    obtain ⟨h25, e26, e⟩ := jbind e
    refine ey_putf_i (cd_157 rfl) mt_157 rfl rfl rfl e26 ?_
    refine ey_aload_n (cd_157 rfl) rfl ?_
    obtain ⟨v27, e28, e⟩ := jbind e
    refine ey_getf_i (cd_157 rfl) mt_157 rfl rfl rfl e28 ?_
    cases e
    exact ey_reti (cd_157 rfl) mt_157 rfl
  · rw [if_neg q10] at e
    refine ey_nle (cd_157 rfl) rfl rfl (show jw 4000 = 4000 from by decide) q10 ?_
    refine ey_iconst (cd_157 rfl) ?_
    cases e
    exact ey_reti (cd_157 rfl) mt_157 rfl
