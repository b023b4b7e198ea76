theorem cd_97 {pc : Nat} {i : Instr × Nat} (h : mm_lk mm_c97 pc = some i) : mm_cd 97 pc = some i := h
theorem mt_97 : mm_MT 97 = (6, 2, some .int, 1, 0, []) := rfl
set_option maxRecDepth 100000 in
theorem jk_97_b17 {L : Nat} {xs : Nat → Int32} {this : Nat} {y0 : Int} {h : jH} {o : Int} (e : jd_97_b17 this y0 h = some o) : ∀ lv : jL, ey (mm_xt L xs) 0 97 17 lv [jI y0] h (.inl (some (jcv (jI o)), jaH h)) := by
  intro lv 
  unfold jd_97_b17 at e
  cases e
  exact ey_reti (cd_97 rfl) mt_97 rfl
set_option maxRecDepth 100000 in
theorem ok_97 {L : Nat} {xs : Nat → Int32} {this : Nat} {p0 : Int} {h : jH} {o : Int} (e : jd_97 this p0 h = some o) : mm_Runs (mm_xt L xs) 1 97 ([jR (some this), jI p0].map jcv) (jaH h) (.inl (some (jcv (jI o)), jaH h)) := by
  refine ey_run0 _ mt_97 (jsl_s rfl) ?_
  unfold jd_97 at e
  refine ey_iload_n (cd_97 rfl) rfl ?_
  by_cases q1 : (jw p0) = 0
  · rw [if_pos q1] at e
    refine ey_yne (cd_97 rfl) rfl rfl (fun w => w q1) ?_
    refine ey_aload_n (cd_97 rfl) rfl ?_
    obtain ⟨v2, e3, e⟩ := jbind e
    refine ey_getf_i (cd_97 rfl) mt_97 rfl rfl rfl e3 ?_
    refine ey_goto (cd_97 rfl) rfl ?_
    exact jk_97_b17 e (jlf (jla 0 [jR (some this), jI p0])) 
  · rw [if_neg q1] at e
    refine ey_zne (cd_97 rfl) rfl rfl q1 ?_
    refine ey_aload_n (cd_97 rfl) rfl ?_
    obtain ⟨v4, e5, e⟩ := jbind e
    refine ey_getf_i (cd_97 rfl) mt_97 rfl rfl rfl e5 ?_
    refine ey_iconst (cd_97 rfl) ?_
    refine ey_idiv (cd_97 rfl) (by decide) ?_
    exact jk_97_b17 e (jlf (jla 0 [jR (some this), jI p0])) 
theorem cd_82 {pc : Nat} {i : Instr × Nat} (h : mm_lk mm_c82 pc = some i) : mm_cd 82 pc = some i := h
theorem mt_82 : mm_MT 82 = (5, 10, none, 4, 0, []) := rfl
set_option maxRecDepth 100000 in
theorem jk_82_s129 {L : Nat} {xs : Nat → Int32} {this : Nat} {x1 : Option Nat} {x2 : Int} {x4 : Option Nat} {x5 : Int} {x6 : Int} {x7 : Int} {x9 : Int} {h : jH} {o : ((Int × jH) ⊕ jH)} {r : mm_R} (e : jd_82_s129 this x1 x2 x4 x5 x6 x7 x9 h = some o) (K : jsm (fun s => (∀ lv : jL, lv 0 = some (jR (some this)) → lv 1 = some (jR x1) → lv 2 = some (jI x2) → lv 4 = some (jR x4) → lv 5 = some (jI x5) → lv 6 = some (jI x6) → lv 7 = some (jI x7) → lv 9 = some (jI s.1) → ey (mm_xt L xs) 1 82 129 lv [] s.2 r)) (fun x => (∀ lv : jL, ey (mm_xt L xs) 1 82 176 lv [] x r)) o) : ∀ lv : jL, lv 0 = some (jR (some this)) → lv 1 = some (jR x1) → lv 2 = some (jI x2) → lv 4 = some (jR x4) → lv 5 = some (jI x5) → lv 6 = some (jI x6) → lv 7 = some (jI x7) → lv 9 = some (jI x9) → ey (mm_xt L xs) 1 82 129 lv [] h r := by
  intro lv f0 f1 f2 f4 f5 f6 f7 f9
  unfold jd_82_s129 at e
  refine ey_iload (cd_82 rfl) f9 ?_
  refine ey_iload (cd_82 rfl) f5 ?_
  by_cases q46 : (jw x5) ≤ (jw x9)
  · rw [if_pos q46] at e
    refine ey_cge (cd_82 rfl) rfl rfl rfl q46 ?_
    cases e
    exact K lv 
  · rw [if_neg q46] at e
    refine ey_nge (cd_82 rfl) rfl rfl rfl q46 ?_
    refine ey_aload_n (cd_82 rfl) f0 ?_
    refine ey_aload_n (cd_82 rfl) f1 ?_
    obtain ⟨a47, e48, e⟩ := jbind e
    refine ey_rs (s0 := [jR x1, jR (some this)]) (s1 := [jR (some a47), jR (some this)]) (by rw [e48]) ?_
    obtain ⟨r49, e50, e⟩ := jbind e
    refine ey_getf_r (cd_82 rfl) mt_82 rfl rfl rfl e50 ?_
    refine ey_iload (cd_82 rfl) f6 ?_
    refine ey_iconst (cd_82 rfl) ?_
    refine ey_iand (cd_82 rfl) ?_
    refine ey_iload (cd_82 rfl) f7 ?_
    refine ey_iconst (cd_82 rfl) ?_
    refine ey_iand (cd_82 rfl) ?_
    refine ey_iadd (cd_82 rfl) ?_
    refine ey_iload (cd_82 rfl) f9 ?_
    refine ey_iload (cd_82 rfl) f5 ?_
    refine ey_aload (cd_82 rfl) f4 ?_
    refine ey_gs (cd_82 rfl) mt_82 rfl rfl ?_
    refine ey_iload_n (cd_82 rfl) f2 ?_
    obtain ⟨v51, e52, e⟩ := jbind e
    refine ey_iast_x (cd_82 rfl) (by decide) e52 ?_
    refine ey_iload (cd_82 rfl) f9 ?_
    refine ey_iload (cd_82 rfl) f5 ?_
    refine ey_imul (cd_82 rfl) ?_
    refine ey_iadd (cd_82 rfl) ?_
    obtain ⟨u53, e54, e⟩ := jbind e
    obtain ⟨h55, e56, e⟩ := jbind e
    refine ey_cv (s0 := [jI (v51 + (x9 * x5)), jR x4, jI x5, jI x9, jI ((jand x6 1) + (jand x7 1)), jR r49, jR (some this)]) (s1 := []) (st' := []) (cd_82 rfl) mt_82 mt_85 rfl rfl rfl (jck_s e54) rfl (jsml_s rfl) rfl (ok_85 e56) ?_
    refine ey_iinc (cd_82 rfl) mt_82 rfl f9 ?_
    refine ey_goto (cd_82 rfl) rfl ?_
    cases e
    exact K (jup lv 9 (jI (x9 + 1))) f0 f1 f2 f4 f5 f6 f7 rfl
theorem jk_82_l129 {L : Nat} {xs : Nat → Int32} {this : Nat} {x1 : Option Nat} {x2 : Int} {x4 : Option Nat} {x5 : Int} {x6 : Int} {x7 : Int} {x9 : Int} {h : jH} {x : jH} {r : mm_R} (e : jd_82_l129 this x1 x2 x4 x5 x6 x7 x9 h = some x) (K : (∀ lv : jL, ey (mm_xt L xs) 1 82 176 lv [] x r)) : ∀ lv : jL, lv 0 = some (jR (some this)) → lv 1 = some (jR x1) → lv 2 = some (jI x2) → lv 4 = some (jR x4) → lv 5 = some (jI x5) → lv 6 = some (jI x6) → lv 7 = some (jI x7) → lv 9 = some (jI x9) → ey (mm_xt L xs) 1 82 129 lv [] h r := by
  unfold jd_82_l129 at e
  exact jlp_ok2 (P := fun s => ∀ lv : jL, lv 0 = some (jR (some this)) → lv 1 = some (jR x1) → lv 2 = some (jI x2) → lv 4 = some (jR x4) → lv 5 = some (jI x5) → lv 6 = some (jI x6) → lv 7 = some (jI x7) → lv 9 = some (jI s.1) → ey (mm_xt L xs) 1 82 129 lv [] s.2 r) (Q := fun x => (∀ lv : jL, ey (mm_xt L xs) 1 82 176 lv [] x r)) (fun s q hq hk => jk_82_s129 hq hk) jfu _ x e K
set_option maxRecDepth 100000 in
theorem jk_82_b65 {L : Nat} {xs : Nat → Int32} {this : Nat} {x1 : Option Nat} {x2 : Int} {x4 : Option Nat} {x5 : Int} {x6 : Int} {y0 : Int} {h : jH} {o : jH} (e : jd_82_b65 this x1 x2 x4 x5 x6 y0 h = some o) : ∀ lv : jL, lv 0 = some (jR (some this)) → lv 1 = some (jR x1) → lv 2 = some (jI x2) → lv 4 = some (jR x4) → lv 5 = some (jI x5) → lv 6 = some (jI x6) → ey (mm_xt L xs) 1 82 65 lv [jI y0] h (.inl (none, jaH o)) := by
  intro lv f0 f1 f2 f4 f5 f6
  unfold jd_82_b65 at e
  refine ey_istore (cd_82 rfl) mt_82 rfl ?_
  refine ey_aload_n (cd_82 rfl) f1 ?_
  refine ey_iload_n (cd_82 rfl) f2 ?_
  obtain ⟨a16, e17, e⟩ := jbind e
  refine ey_rs (s0 := [jI x2, jR x1]) (s1 := [jI x2, jR (some a16)]) (by rw [e17]) ?_
  obtain ⟨u18, e19, e⟩ := jbind e
  obtain ⟨v20, e21, e⟩ := jbind e
  refine ey_cv (s0 := [jI x2, jR (some a16)]) (s1 := []) (st' := [jI v20]) (cd_82 rfl) mt_82 mt_96 rfl rfl rfl (jck_s e19) rfl (jsml_s rfl) rfl (ok_96 e21) ?_
  refine ey_istore (cd_82 rfl) mt_82 rfl ?_
  refine ey_aload_n (cd_82 rfl) f0 ?_
  obtain ⟨r22, e23, e⟩ := jbind e
  refine ey_getf_r (cd_82 rfl) mt_82 rfl rfl rfl e23 ?_
  refine ey_aload_n (cd_82 rfl) f0 ?_
  obtain ⟨v24, e25, e⟩ := jbind e
  refine ey_getf_i (cd_82 rfl) mt_82 rfl rfl rfl e25 ?_
  refine ey_iload (cd_82 rfl) f5 ?_
  refine ey_imul (cd_82 rfl) ?_
  refine ey_iload (cd_82 rfl) f5 ?_
  refine ey_iload (cd_82 rfl) (jup_o rfl (jup_pi (lv := lv) (j := 6) (v := jI y0) (z := x6) f6)) ?_
  refine ey_iload (cd_82 rfl) rfl ?_
  refine ey_iconst (cd_82 rfl) ?_
  refine ey_iconst (cd_82 rfl) ?_
  obtain ⟨h26, e27, e⟩ := jbind e
  refine ey_cs (s0 := [jI 0, jI 1, jI v20, jI x6, jI x5, jI (v24 * x5), jR r22]) (s1 := []) (st' := []) (cd_82 rfl) mt_82 mt_84 rfl (by decide) rfl rfl (jsml_s rfl) rfl (ok_84 e27) ?_
  refine ey_aload_n (cd_82 rfl) f0 ?_
  obtain ⟨r28, e29, e⟩ := jbind e
  refine ey_getf_r (cd_82 rfl) mt_82 rfl rfl rfl e29 ?_
  refine ey_aload_n (cd_82 rfl) f0 ?_
  obtain ⟨v30, e31, e⟩ := jbind e
  refine ey_getf_i (cd_82 rfl) mt_82 rfl rfl rfl e31 ?_
  refine ey_iload (cd_82 rfl) f5 ?_
  refine ey_imul (cd_82 rfl) ?_
  refine ey_iload (cd_82 rfl) f5 ?_
  refine ey_iload (cd_82 rfl) (jup_pi (lv := (jup lv 7 (jI y0))) (j := 7) (v := jI v20) (z := y0) rfl) ?_
  refine ey_aload_n (cd_82 rfl) f1 ?_
  refine ey_iload_n (cd_82 rfl) f2 ?_
  obtain ⟨a32, e33, e⟩ := jbind e
  refine ey_rs (s0 := [jI x2, jR x1, jI y0, jI x5, jI (v30 * x5), jR r28]) (s1 := [jI x2, jR (some a32), jI y0, jI x5, jI (v30 * x5), jR r28]) (by rw [e33]) ?_
  obtain ⟨u34, e35, e⟩ := jbind e
  obtain ⟨v36, e37, e⟩ := jbind e
  refine ey_cv (s0 := [jI x2, jR (some a32), jI y0, jI x5, jI (v30 * x5), jR r28]) (s1 := [jI y0, jI x5, jI (v30 * x5), jR r28]) (st' := [jI v36, jI y0, jI x5, jI (v30 * x5), jR r28]) (cd_82 rfl) mt_82 mt_97 rfl rfl rfl (jck_s e35) rfl (jsml_s rfl) rfl (ok_97 e37) ?_
  refine ey_iload (cd_82 rfl) rfl ?_
  refine ey_aload_n (cd_82 rfl) f1 ?_
  refine ey_iload_n (cd_82 rfl) f2 ?_
  obtain ⟨a38, e39, e⟩ := jbind e
  refine ey_rs (s0 := [jI x2, jR x1, jI v20, jI v36, jI y0, jI x5, jI (v30 * x5), jR r28]) (s1 := [jI x2, jR (some a38), jI v20, jI v36, jI y0, jI x5, jI (v30 * x5), jR r28]) (by rw [e39]) ?_
  obtain ⟨u40, e41, e⟩ := jbind e
  obtain ⟨v42, e43, e⟩ := jbind e
  refine ey_cv (s0 := [jI x2, jR (some a38), jI v20, jI v36, jI y0, jI x5, jI (v30 * x5), jR r28]) (s1 := [jI v20, jI v36, jI y0, jI x5, jI (v30 * x5), jR r28]) (st' := [jI v42, jI v20, jI v36, jI y0, jI x5, jI (v30 * x5), jR r28]) (cd_82 rfl) mt_82 mt_98 rfl rfl rfl (jck_s e41) rfl (jsml_s rfl) rfl (ok_98 e43) ?_
  obtain ⟨h44, e45, e⟩ := jbind e
  refine ey_cs (s0 := [jI v42, jI v20, jI v36, jI y0, jI x5, jI (v30 * x5), jR r28]) (s1 := []) (st' := []) (cd_82 rfl) mt_82 mt_84 rfl (by decide) rfl rfl (jsml_s rfl) rfl (ok_84 e45) ?_
  refine ey_iconst (cd_82 rfl) ?_
  refine ey_istore (cd_82 rfl) mt_82 rfl ?_
  obtain ⟨x57, e58, e⟩ := jbind e
  refine jk_82_l129 e58 ?_ (jup (jup (jup lv 7 (jI y0)) 8 (jI v20)) 9 (jI 0)) f0 f1 f2 f4 f5 (jup_o rfl (jup_o rfl (jup_pi (lv := lv) (j := 6) (v := jI y0) (z := x6) f6))) (jup_o rfl (jup_pi (lv := (jup lv 7 (jI y0))) (j := 7) (v := jI v20) (z := y0) rfl)) rfl
  intro lv 
  cases e
  exact ey_retv (cd_82 rfl) mt_82 rfl
set_option maxRecDepth 100000 in
theorem jk_82_b38 {L : Nat} {xs : Nat → Int32} {this : Nat} {x1 : Option Nat} {x2 : Int} {x3 : Int} {x4 : Option Nat} {x5 : Int} {y0 : Int} {h : jH} {o : jH} (e : jd_82_b38 this x1 x2 x3 x4 x5 y0 h = some o) : ∀ lv : jL, lv 0 = some (jR (some this)) → lv 1 = some (jR x1) → lv 2 = some (jI x2) → lv 3 = some (jI x3) → lv 4 = some (jR x4) → lv 5 = some (jI x5) → ey (mm_xt L xs) 1 82 38 lv [jI y0] h (.inl (none, jaH o)) := by
  intro lv f0 f1 f2 f3 f4 f5
  unfold jd_82_b38 at e
  refine ey_istore (cd_82 rfl) mt_82 rfl ?_
  refine ey_iload_n (cd_82 rfl) f2 ?_
  by_cases q9 : (jw x2) = 0
  · rw [if_pos q9] at e
    refine ey_yne (cd_82 rfl) rfl rfl (fun w => w q9) ?_
    refine ey_aload_n (cd_82 rfl) f0 ?_
    obtain ⟨r10, e11, e⟩ := jbind e
    refine ey_getf_r (cd_82 rfl) mt_82 rfl rfl rfl e11 ?_
    refine ey_iload_n (cd_82 rfl) f3 ?_
    refine ey_iconst (cd_82 rfl) ?_
    refine ey_iadd (cd_82 rfl) ?_
    obtain ⟨a12, e13, e⟩ := jbind e
    refine ey_rs (s0 := [jI (x3 + 1), jR r10]) (s1 := [jI (x3 + 1), jR (some a12)]) (by rw [e13]) ?_
    obtain ⟨v14, e15, e⟩ := jbind e
    refine ey_iald (cd_82 rfl) e15 ?_
    refine ey_goto (cd_82 rfl) rfl ?_
    exact jk_82_b65 e (jup lv 6 (jI y0)) f0 f1 f2 f4 (jup_pi (lv := lv) (j := 5) (v := jI y0) (z := x5) f5) rfl
  · rw [if_neg q9] at e
    refine ey_zne (cd_82 rfl) rfl rfl q9 ?_
    refine ey_aload_n (cd_82 rfl) f0 ?_
    obtain ⟨r59, e60, e⟩ := jbind e
    refine ey_getf_r (cd_82 rfl) mt_82 rfl rfl rfl e60 ?_
    refine ey_iload_n (cd_82 rfl) f3 ?_
    refine ey_iconst (cd_82 rfl) ?_
    refine ey_iadd (cd_82 rfl) ?_
    obtain ⟨a61, e62, e⟩ := jbind e
    refine ey_rs (s0 := [jI (x3 + 1), jR r59]) (s1 := [jI (x3 + 1), jR (some a61)]) (by rw [e62]) ?_
    obtain ⟨v63, e64, e⟩ := jbind e
    refine ey_iald (cd_82 rfl) e64 ?_
    refine ey_iconst (cd_82 rfl) ?_
    refine ey_idiv (cd_82 rfl) (by decide) ?_
    exact jk_82_b65 e (jup lv 6 (jI y0)) f0 f1 f2 f4 (jup_pi (lv := lv) (j := 5) (v := jI y0) (z := x5) f5) rfl
set_option maxRecDepth 100000 in
theorem ok_82 {L : Nat} {xs : Nat → Int32} {this : Nat} {p0 : Option Nat} {p1 : Int} {p2 : Int} {p3 : Option Nat} {h : jH} {o : jH} (e : jd_82 this p0 p1 p2 p3 h = some o) : mm_Runs (mm_xt L xs) 2 82 ([jR (some this), jR p0, jI p1, jI p2, jR p3].map jcv) (jaH h) (.inl (none, jaH o)) := by
  refine ey_run0 _ mt_82 (jsl_s rfl) ?_
  unfold jd_82 at e
  refine ey_aload_n (cd_82 rfl) rfl ?_
  by_cases q1 : p0 = none
  · rw [if_pos q1] at e
    refine ey_rs (s0 := [jR p0]) (s1 := [jR none]) (by rw [q1]) ?_
    refine ey_ifnonnull_n (cd_82 rfl) rfl ?_
    cases e
    exact ey_retv (cd_82 rfl) mt_82 rfl
  · rw [if_neg q1] at e
    obtain ⟨w73, w73e⟩ := Option.ne_none_iff_exists'.mp q1
    refine ey_rs (s0 := [jR p0]) (s1 := [jR (some w73)]) (by rw [w73e]) ?_
    refine ey_ifnonnull_s (cd_82 rfl) rfl ?_
    refine ey_iload_n (cd_82 rfl) rfl ?_
    have K71 : ∀ lv : jL, lv 0 = some (jR (some this)) → lv 1 = some (jR p0) → lv 2 = some (jI p1) → lv 3 = some (jI p2) → lv 4 = some (jR p3) → ey (mm_xt L xs) 1 82 15 lv [jI (if (jw p1) = 0 then 8 else 4)] h (.inl (none, jaH o)) := by
      intro lv g0 g1 g2 g3 g4
      refine ey_istore (cd_82 rfl) mt_82 rfl ?_
      refine ey_iload_n (cd_82 rfl) g2 ?_
      by_cases q2 : (jw p1) = 0
      · rw [if_pos q2] at e
        refine ey_yne (cd_82 rfl) rfl rfl (fun w => w q2) ?_
        refine ey_aload_n (cd_82 rfl) g0 ?_
        obtain ⟨r3, e4, e⟩ := jbind e
        refine ey_getf_r (cd_82 rfl) mt_82 rfl rfl rfl e4 ?_
        refine ey_iload_n (cd_82 rfl) g3 ?_
        obtain ⟨a5, e6, e⟩ := jbind e
        refine ey_rs (s0 := [jI p2, jR r3]) (s1 := [jI p2, jR (some a5)]) (by rw [e6]) ?_
        obtain ⟨v7, e8, e⟩ := jbind e
        refine ey_iald (cd_82 rfl) e8 ?_
        refine ey_goto (cd_82 rfl) rfl ?_
        exact jk_82_b38 e (jup lv 5 (jI (if (jw p1) = 0 then 8 else 4))) g0 g1 g2 g3 (jup_pr (lv := lv) (j := 4) (v := jI (if (jw p1) = 0 then 8 else 4)) (z := p3) g4) rfl
      · rw [if_neg q2] at e
        refine ey_zne (cd_82 rfl) rfl rfl q2 ?_
        refine ey_aload_n (cd_82 rfl) g0 ?_
        obtain ⟨r65, e66, e⟩ := jbind e
        refine ey_getf_r (cd_82 rfl) mt_82 rfl rfl rfl e66 ?_
        refine ey_iload_n (cd_82 rfl) g3 ?_
        obtain ⟨a67, e68, e⟩ := jbind e
        refine ey_rs (s0 := [jI p2, jR r65]) (s1 := [jI p2, jR (some a67)]) (by rw [e68]) ?_
        obtain ⟨v69, e70, e⟩ := jbind e
        refine ey_iald (cd_82 rfl) e70 ?_
        refine ey_iconst (cd_82 rfl) ?_
        refine ey_idiv (cd_82 rfl) (by decide) ?_
        exact jk_82_b38 e (jup lv 5 (jI (if (jw p1) = 0 then 8 else 4))) g0 g1 g2 g3 (jup_pr (lv := lv) (j := 4) (v := jI (if (jw p1) = 0 then 8 else 4)) (z := p3) g4) rfl
    by_cases q72 : (jw p1) = 0
    · refine ey_yne (cd_82 rfl) rfl rfl (fun w => w q72) ?_
      refine ey_bipush (cd_82 rfl) (by decide) ?_
      refine ey_goto (cd_82 rfl) rfl ?_
      exact ey_rs (s0 := [jI 8]) (s1 := [jI (if (jw p1) = 0 then 8 else 4)]) (by rw [show ((if (jw p1) = 0 then 8 else 4) : Int) = 8 from (if_pos q72)]) (K71 (jlf (jla 0 [jR (some this), jR p0, jI p1, jI p2, jR p3])) rfl rfl rfl rfl rfl)
    · refine ey_zne (cd_82 rfl) rfl rfl q72 ?_
      refine ey_iconst (cd_82 rfl) ?_
      exact ey_rs (s0 := [jI 4]) (s1 := [jI (if (jw p1) = 0 then 8 else 4)]) (by rw [show ((if (jw p1) = 0 then 8 else 4) : Int) = 4 from (if_neg q72)]) (K71 (jlf (jla 0 [jR (some this), jR p0, jI p1, jI p2, jR p3])) rfl rfl rfl rfl rfl)
theorem cd_79 {pc : Nat} {i : Instr × Nat} (h : mm_lk mm_c79 pc = some i) : mm_cd 79 pc = some i := h
theorem mt_79 : mm_MT 79 = (5, 5, none, 1, 0, []) := rfl
set_option maxRecDepth 100000 in
theorem jk_79_b118 {L : Nat} {xs : Nat → Int32} {this : Nat} {x1 : Int} {x2 : Int} {x3 : Int} {x4 : Int} {h : jH} {o : ((Int × jH) ⊕ jH)} {r : mm_R} (e : jd_79_b118 this x1 x2 x3 x4 h = some o) (K : jsm (fun s => (∀ lv : jL, lv 0 = some (jR (some this)) → lv 1 = some (jI x1) → lv 2 = some (jI x2) → lv 3 = some (jI x3) → lv 4 = some (jI s.1) → ey (mm_xt L xs) 2 79 51 lv [] s.2 r)) (fun x => (∀ lv : jL, lv 0 = some (jR (some this)) → lv 2 = some (jI x2) → lv 3 = some (jI x3) → ey (mm_xt L xs) 2 79 124 lv [] x r)) o) : ∀ lv : jL, lv 0 = some (jR (some this)) → lv 1 = some (jI x1) → lv 2 = some (jI x2) → lv 3 = some (jI x3) → lv 4 = some (jI x4) → ey (mm_xt L xs) 2 79 118 lv [] h r := by
  intro lv f0 f1 f2 f3 f4
  unfold jd_79_b118 at e
  refine ey_iinc (cd_79 rfl) mt_79 rfl f4 ?_
  refine ey_goto (cd_79 rfl) rfl ?_
  cases e
  exact K (jup lv 4 (jI (x4 + 1))) f0 f1 f2 (jup_pi (lv := lv) (j := 3) (v := jI (x4 + 1)) (z := x3) f3) rfl
set_option maxRecDepth 100000 in
theorem jk_79_b115 {L : Nat} {xs : Nat → Int32} {this : Nat} {x1 : Int} {x2 : Int} {x3 : Int} {x4 : Int} {y0 : Option Nat} {y1 : Int} {y2 : Int} {y3 : Option Nat} {h : jH} {o : ((Int × jH) ⊕ jH)} {r : mm_R} (e : jd_79_b115 this x1 x2 x3 x4 y0 y1 y2 y3 h = some o) (K : jsm (fun s => (∀ lv : jL, lv 0 = some (jR (some this)) → lv 1 = some (jI x1) → lv 2 = some (jI x2) → lv 3 = some (jI x3) → lv 4 = some (jI s.1) → ey (mm_xt L xs) 2 79 51 lv [] s.2 r)) (fun x => (∀ lv : jL, lv 0 = some (jR (some this)) → lv 2 = some (jI x2) → lv 3 = some (jI x3) → ey (mm_xt L xs) 2 79 124 lv [] x r)) o) : ∀ lv : jL, lv 0 = some (jR (some this)) → lv 1 = some (jI x1) → lv 2 = some (jI x2) → lv 3 = some (jI x3) → lv 4 = some (jI x4) → ey (mm_xt L xs) 2 79 115 lv [jR y0, jI y1, jI y2, jR y3, jR (some this)] h r := by
  intro lv f0 f1 f2 f3 f4
  unfold jd_79_b115 at e
  obtain ⟨u11, e12, e⟩ := jbind e
  obtain ⟨h13, e14, e⟩ := jbind e
  refine ey_cv (s0 := [jR y0, jI y1, jI y2, jR y3, jR (some this)]) (s1 := []) (st' := []) (cd_79 rfl) mt_79 mt_82 rfl rfl rfl (jck_s e12) rfl (jsml_s rfl) rfl (ok_82 e14) ?_
  exact jk_79_b118 e K lv f0 f1 f2 f3 f4
set_option maxRecDepth 100000 in
theorem jk_79_b88 {L : Nat} {xs : Nat → Int32} {this : Nat} {x1 : Int} {x2 : Int} {x3 : Int} {x4 : Int} {h : jH} {o : ((Int × jH) ⊕ jH)} {r : mm_R} (e : jd_79_b88 this x1 x2 x3 x4 h = some o) (K : jsm (fun s => (∀ lv : jL, lv 0 = some (jR (some this)) → lv 1 = some (jI x1) → lv 2 = some (jI x2) → lv 3 = some (jI x3) → lv 4 = some (jI s.1) → ey (mm_xt L xs) 2 79 51 lv [] s.2 r)) (fun x => (∀ lv : jL, lv 0 = some (jR (some this)) → lv 2 = some (jI x2) → lv 3 = some (jI x3) → ey (mm_xt L xs) 2 79 124 lv [] x r)) o) : ∀ lv : jL, lv 0 = some (jR (some this)) → lv 1 = some (jI x1) → lv 2 = some (jI x2) → lv 3 = some (jI x3) → lv 4 = some (jI x4) → ey (mm_xt L xs) 2 79 88 lv [] h r := by
  intro lv f0 f1 f2 f3 f4
  unfold jd_79_b88 at e
  refine ey_iload_n (cd_79 rfl) f3 ?_
  by_cases q5 : (jw x3) = 0
  · rw [if_pos q5] at e
    refine ey_zeq (cd_79 rfl) rfl rfl q5 ?_
    exact jk_79_b118 e K lv f0 f1 f2 f3 f4
  · rw [if_neg q5] at e
    refine ey_yeq (cd_79 rfl) rfl rfl q5 ?_
    refine ey_aload_n (cd_79 rfl) f0 ?_
    refine ey_aload_n (cd_79 rfl) f0 ?_
    obtain ⟨r6, e7, e⟩ := jbind e
    refine ey_getf_r (cd_79 rfl) mt_79 rfl rfl rfl e7 ?_
    refine ey_iload (cd_79 rfl) f4 ?_
    refine ey_iconst (cd_79 rfl) ?_
    refine ey_iload_n (cd_79 rfl) f2 ?_
    by_cases q8 : (jw x2) = 0
    · rw [if_pos q8] at e
      refine ey_zeq (cd_79 rfl) rfl rfl q8 ?_
      refine ey_aload_n (cd_79 rfl) f0 ?_
      obtain ⟨r9, e10, e⟩ := jbind e
      refine ey_getf_r (cd_79 rfl) mt_79 rfl rfl rfl e10 ?_
      exact jk_79_b115 e K lv f0 f1 f2 f3 f4
    · rw [if_neg q8] at e
      refine ey_yeq (cd_79 rfl) rfl rfl q8 ?_
      refine ey_aload_n (cd_79 rfl) f0 ?_
      obtain ⟨r15, e16, e⟩ := jbind e
      refine ey_getf_r (cd_79 rfl) mt_79 rfl rfl rfl e16 ?_
      refine ey_goto (cd_79 rfl) rfl ?_
      exact jk_79_b115 e K lv f0 f1 f2 f3 f4
set_option maxRecDepth 100000 in
theorem jk_79_b69 {L : Nat} {xs : Nat → Int32} {this : Nat} {x1 : Int} {x2 : Int} {x3 : Int} {x4 : Int} {h : jH} {o : ((Int × jH) ⊕ jH)} {r : mm_R} (e : jd_79_b69 this x1 x2 x3 x4 h = some o) (K : jsm (fun s => (∀ lv : jL, lv 0 = some (jR (some this)) → lv 1 = some (jI x1) → lv 2 = some (jI x2) → lv 3 = some (jI x3) → lv 4 = some (jI s.1) → ey (mm_xt L xs) 2 79 51 lv [] s.2 r)) (fun x => (∀ lv : jL, lv 0 = some (jR (some this)) → lv 2 = some (jI x2) → lv 3 = some (jI x3) → ey (mm_xt L xs) 2 79 124 lv [] x r)) o) : ∀ lv : jL, lv 0 = some (jR (some this)) → lv 1 = some (jI x1) → lv 2 = some (jI x2) → lv 3 = some (jI x3) → lv 4 = some (jI x4) → ey (mm_xt L xs) 2 79 69 lv [] h r := by
  intro lv f0 f1 f2 f3 f4
  unfold jd_79_b69 at e
  refine ey_iload_n (cd_79 rfl) f2 ?_
  by_cases q4 : (jw x2) = 0
  · rw [if_pos q4] at e
    refine ey_zeq (cd_79 rfl) rfl rfl q4 ?_
    exact jk_79_b88 e K lv f0 f1 f2 f3 f4
  · rw [if_neg q4] at e
    refine ey_yeq (cd_79 rfl) rfl rfl q4 ?_
    refine ey_aload_n (cd_79 rfl) f0 ?_
    refine ey_aload_n (cd_79 rfl) f0 ?_
    obtain ⟨r17, e18, e⟩ := jbind e
    refine ey_getf_r (cd_79 rfl) mt_79 rfl rfl rfl e18 ?_
    refine ey_iload (cd_79 rfl) f4 ?_
    refine ey_iconst (cd_79 rfl) ?_
    refine ey_aload_n (cd_79 rfl) f0 ?_
    obtain ⟨r19, e20, e⟩ := jbind e
    refine ey_getf_r (cd_79 rfl) mt_79 rfl rfl rfl e20 ?_
    obtain ⟨u21, e22, e⟩ := jbind e
    obtain ⟨h23, e24, e⟩ := jbind e
    refine ey_cv (s0 := [jR r19, jI 0, jI x4, jR r17, jR (some this)]) (s1 := []) (st' := []) (cd_79 rfl) mt_79 mt_82 rfl rfl rfl (jck_s e22) rfl (jsml_s rfl) rfl (ok_82 e24) ?_
    exact jk_79_b88 e K lv f0 f1 f2 f3 f4
set_option maxRecDepth 100000 in
theorem jk_79_s51 {L : Nat} {xs : Nat → Int32} {this : Nat} {x1 : Int} {x2 : Int} {x3 : Int} {x4 : Int} {h : jH} {o : ((Int × jH) ⊕ jH)} {r : mm_R} (e : jd_79_s51 this x1 x2 x3 x4 h = some o) (K : jsm (fun s => (∀ lv : jL, lv 0 = some (jR (some this)) → lv 1 = some (jI x1) → lv 2 = some (jI x2) → lv 3 = some (jI x3) → lv 4 = some (jI s.1) → ey (mm_xt L xs) 2 79 51 lv [] s.2 r)) (fun x => (∀ lv : jL, lv 0 = some (jR (some this)) → lv 2 = some (jI x2) → lv 3 = some (jI x3) → ey (mm_xt L xs) 2 79 124 lv [] x r)) o) : ∀ lv : jL, lv 0 = some (jR (some this)) → lv 1 = some (jI x1) → lv 2 = some (jI x2) → lv 3 = some (jI x3) → lv 4 = some (jI x4) → ey (mm_xt L xs) 2 79 51 lv [] h r := by
  intro lv f0 f1 f2 f3 f4
  unfold jd_79_s51 at e
  refine ey_iload (cd_79 rfl) f4 ?_
  refine ey_iconst (cd_79 rfl) ?_
  by_cases q2 : 3 ≤ (jw x4)
  · rw [if_pos q2] at e
    refine ey_cge (cd_79 rfl) rfl rfl (show jw 3 = 3 from by decide) q2 ?_
    cases e
    exact K lv f0 f2 f3
  · rw [if_neg q2] at e
    refine ey_nge (cd_79 rfl) rfl rfl (show jw 3 = 3 from by decide) q2 ?_
    refine ey_iload_n (cd_79 rfl) f1 ?_
    refine ey_iconst (cd_79 rfl) ?_
    by_cases q3 : (jw x1) < 4
    · rw [if_pos q3] at e
      refine ey_clt (cd_79 rfl) rfl rfl (show jw 4 = 4 from by decide) q3 ?_
      exact jk_79_b69 e K lv f0 f1 f2 f3 f4
    · rw [if_neg q3] at e
      refine ey_nlt (cd_79 rfl) rfl rfl (show jw 4 = 4 from by decide) q3 ?_
      refine ey_aload_n (cd_79 rfl) f0 ?_
      refine ey_iload_n (cd_79 rfl) f1 ?_
      refine ey_iload (cd_79 rfl) f4 ?_
      obtain ⟨u25, e26, e⟩ := jbind e
      obtain ⟨h27, e28, e⟩ := jbind e
      refine ey_cv (s0 := [jI x4, jI x1, jR (some this)]) (s1 := []) (st' := []) (cd_79 rfl) mt_79 mt_80 rfl rfl rfl (jck_s e26) rfl (jsml_s rfl) rfl (ok_80 e28) ?_
      exact jk_79_b69 e K lv f0 f1 f2 f3 f4
theorem jk_79_l51 {L : Nat} {xs : Nat → Int32} {this : Nat} {x1 : Int} {x2 : Int} {x3 : Int} {x4 : Int} {h : jH} {x : jH} {r : mm_R} (e : jd_79_l51 this x1 x2 x3 x4 h = some x) (K : (∀ lv : jL, lv 0 = some (jR (some this)) → lv 2 = some (jI x2) → lv 3 = some (jI x3) → ey (mm_xt L xs) 2 79 124 lv [] x r)) : ∀ lv : jL, lv 0 = some (jR (some this)) → lv 1 = some (jI x1) → lv 2 = some (jI x2) → lv 3 = some (jI x3) → lv 4 = some (jI x4) → ey (mm_xt L xs) 2 79 51 lv [] h r := by
  unfold jd_79_l51 at e
  exact jlp_ok2 (P := fun s => ∀ lv : jL, lv 0 = some (jR (some this)) → lv 1 = some (jI x1) → lv 2 = some (jI x2) → lv 3 = some (jI x3) → lv 4 = some (jI s.1) → ey (mm_xt L xs) 2 79 51 lv [] s.2 r) (Q := fun x => (∀ lv : jL, lv 0 = some (jR (some this)) → lv 2 = some (jI x2) → lv 3 = some (jI x3) → ey (mm_xt L xs) 2 79 124 lv [] x r)) (fun s q hq hk => jk_79_s51 hq hk) jfu _ x e K
set_option maxRecDepth 100000 in
theorem jk_79_b174 {L : Nat} {xs : Nat → Int32} {this : Nat}  {h : jH} {o : jH} (e : jd_79_b174 this  h = some o) : ∀ lv : jL, ey (mm_xt L xs) 2 79 174 lv [] h (.inl (none, jaH o)) := by
  intro lv 
  unfold jd_79_b174 at e
  cases e
  exact ey_retv (cd_79 rfl) mt_79 rfl
set_option maxRecDepth 100000 in
theorem jk_79_s135 {L : Nat} {xs : Nat → Int32} {this : Nat} {x4 : Int} {h : jH} {o : ((Int × jH) ⊕ jH)} {r : mm_R} (e : jd_79_s135 this x4 h = some o) (K : jsm (fun s => (∀ lv : jL, lv 0 = some (jR (some this)) → lv 4 = some (jI s.1) → ey (mm_xt L xs) 2 79 135 lv [] s.2 r)) (fun x => (∀ lv : jL, ey (mm_xt L xs) 2 79 174 lv [] x r)) o) : ∀ lv : jL, lv 0 = some (jR (some this)) → lv 4 = some (jI x4) → ey (mm_xt L xs) 2 79 135 lv [] h r := by
  intro lv f0 f4
  unfold jd_79_s135 at e
  refine ey_iload (cd_79 rfl) f4 ?_
  refine ey_bipush (cd_79 rfl) (by decide) ?_
  by_cases q33 : 96 ≤ (jw x4)
  · rw [if_pos q33] at e
    refine ey_cge (cd_79 rfl) rfl rfl (show jw 96 = 96 from by decide) q33 ?_
    cases e
    exact K lv 
  · rw [if_neg q33] at e
    refine ey_nge (cd_79 rfl) rfl rfl (show jw 96 = 96 from by decide) q33 ?_
    refine ey_aload_n (cd_79 rfl) f0 ?_
    obtain ⟨r34, e35, e⟩ := jbind e
    refine ey_getf_r (cd_79 rfl) mt_79 rfl rfl rfl e35 ?_
    refine ey_iload (cd_79 rfl) f4 ?_
    refine ey_aload_n (cd_79 rfl) f0 ?_
    obtain ⟨r36, e37, e⟩ := jbind e
    refine ey_getf_r (cd_79 rfl) mt_79 rfl rfl rfl e37 ?_
    refine ey_iload (cd_79 rfl) f4 ?_
    obtain ⟨a38, e39, e⟩ := jbind e
    refine ey_rs (s0 := [jI x4, jR r36, jI x4, jR r34]) (s1 := [jI x4, jR (some a38), jI x4, jR r34]) (by rw [e39]) ?_
    obtain ⟨v40, e41, e⟩ := jbind e
    refine ey_iald (cd_79 rfl) e41 ?_
    refine ey_aload_n (cd_79 rfl) f0 ?_
    obtain ⟨r42, e43, e⟩ := jbind e
    refine ey_getf_r (cd_79 rfl) mt_79 rfl rfl rfl e43 ?_
    refine ey_iload (cd_79 rfl) f4 ?_
    obtain ⟨a44, e45, e⟩ := jbind e
    refine ey_rs (s0 := [jI x4, jR r42, jI v40, jI x4, jR r34]) (s1 := [jI x4, jR (some a44), jI v40, jI x4, jR r34]) (by rw [e45]) ?_
    obtain ⟨v46, e47, e⟩ := jbind e
    refine ey_iald (cd_79 rfl) e47 ?_
    refine ey_iadd (cd_79 rfl) ?_
    refine ey_iconst (cd_79 rfl) ?_
    refine ey_iadd (cd_79 rfl) ?_
    refine ey_iconst (cd_79 rfl) ?_
    refine ey_idiv (cd_79 rfl) (by decide) ?_
    obtain ⟨a48, e49, e⟩ := jbind e
    refine ey_rs (s0 := [jI (jdiv ((v40 + v46) + 1) 2), jI x4, jR r34]) (s1 := [jI (jdiv ((v40 + v46) + 1) 2), jI x4, jR (some a48)]) (by rw [e49]) ?_
    obtain ⟨h50, e51, e⟩ := jbind e
    refine ey_iast (cd_79 rfl) e51 ?_
    refine ey_iinc (cd_79 rfl) mt_79 rfl f4 ?_
    refine ey_goto (cd_79 rfl) rfl ?_
    cases e
    exact K (jup lv 4 (jI (x4 + 1))) f0 rfl
theorem jk_79_l135 {L : Nat} {xs : Nat → Int32} {this : Nat} {x4 : Int} {h : jH} {x : jH} {r : mm_R} (e : jd_79_l135 this x4 h = some x) (K : (∀ lv : jL, ey (mm_xt L xs) 2 79 174 lv [] x r)) : ∀ lv : jL, lv 0 = some (jR (some this)) → lv 4 = some (jI x4) → ey (mm_xt L xs) 2 79 135 lv [] h r := by
  unfold jd_79_l135 at e
  exact jlp_ok2 (P := fun s => ∀ lv : jL, lv 0 = some (jR (some this)) → lv 4 = some (jI s.1) → ey (mm_xt L xs) 2 79 135 lv [] s.2 r) (Q := fun x => (∀ lv : jL, ey (mm_xt L xs) 2 79 174 lv [] x r)) (fun s q hq hk => jk_79_s135 hq hk) jfu _ x e K
set_option maxRecDepth 100000 in
theorem jk_79_b47 {L : Nat} {xs : Nat → Int32} {this : Nat} {x1 : Int} {x2 : Int} {y0 : Int} {h : jH} {o : jH} (e : jd_79_b47 this x1 x2 y0 h = some o) : ∀ lv : jL, lv 0 = some (jR (some this)) → lv 1 = some (jI x1) → lv 2 = some (jI x2) → ey (mm_xt L xs) 2 79 47 lv [jI y0] h (.inl (none, jaH o)) := by
  intro lv f0 f1 f2
  unfold jd_79_b47 at e
  refine ey_istore_n (cd_79 rfl) mt_79 rfl ?_
  refine ey_iconst (cd_79 rfl) ?_
  refine ey_istore (cd_79 rfl) mt_79 rfl ?_
  obtain ⟨x29, e30, e⟩ := jbind e
  refine jk_79_l51 e30 ?_ (jup (jup lv 3 (jI y0)) 4 (jI 0)) f0 f1 (jup_o rfl (jup_pi (lv := lv) (j := 2) (v := jI y0) (z := x2) f2)) (jup_pi (lv := (jup lv 3 (jI y0))) (j := 3) (v := jI 0) (z := y0) rfl) rfl
  intro lv g0 g2 g3
  refine ey_iload_n (cd_79 rfl) g2 ?_
  by_cases q31 : (jw x2) = 0
  · rw [if_pos q31] at e
    refine ey_zeq (cd_79 rfl) rfl rfl q31 ?_
    exact jk_79_b174 e lv 
  · rw [if_neg q31] at e
    refine ey_yeq (cd_79 rfl) rfl rfl q31 ?_
    refine ey_iload_n (cd_79 rfl) g3 ?_
    by_cases q32 : (jw y0) = 0
    · rw [if_pos q32] at e
      refine ey_zeq (cd_79 rfl) rfl rfl q32 ?_
      exact jk_79_b174 e lv 
    · rw [if_neg q32] at e
      refine ey_yeq (cd_79 rfl) rfl rfl q32 ?_
      refine ey_iconst (cd_79 rfl) ?_
      refine ey_istore (cd_79 rfl) mt_79 rfl ?_
      obtain ⟨x52, e53, e⟩ := jbind e
      refine jk_79_l135 e53 ?_ (jup lv 4 (jI 0)) g0 rfl
      intro lv 
      exact jk_79_b174 e lv 
set_option maxRecDepth 100000 in
theorem jk_79_b42 {L : Nat} {xs : Nat → Int32} {this : Nat} {x1 : Int} {x2 : Int} {h : jH} {o : jH} (e : jd_79_b42 this x1 x2 h = some o) : ∀ lv : jL, lv 0 = some (jR (some this)) → lv 1 = some (jI x1) → lv 2 = some (jI x2) → ey (mm_xt L xs) 2 79 42 lv [] h (.inl (none, jaH o)) := by
  intro lv f0 f1 f2
  unfold jd_79_b42 at e
  refine ey_iconst (cd_79 rfl) ?_
  refine ey_goto (cd_79 rfl) rfl ?_
  exact jk_79_b47 e lv f0 f1 f2
set_option maxRecDepth 100000 in
theorem jk_79_b19 {L : Nat} {xs : Nat → Int32} {this : Nat} {x1 : Int} {y0 : Int} {h : jH} {o : jH} (e : jd_79_b19 this x1 y0 h = some o) : ∀ lv : jL, lv 0 = some (jR (some this)) → lv 1 = some (jI x1) → ey (mm_xt L xs) 2 79 19 lv [jI y0] h (.inl (none, jaH o)) := by
  intro lv f0 f1
  unfold jd_79_b19 at e
  refine ey_istore_n (cd_79 rfl) mt_79 rfl ?_
  refine ey_iload_n (cd_79 rfl) (jup_pi (lv := lv) (j := 1) (v := jI y0) (z := x1) f1) ?_
  refine ey_iconst (cd_79 rfl) ?_
  by_cases q1 : (jw x1) = 2
  · rw [if_pos q1] at e
    refine ey_ceq (cd_79 rfl) rfl rfl (show jw 2 = 2 from by decide) q1 ?_
    exact jk_79_b42 e (jup lv 2 (jI y0)) f0 (jup_pi (lv := lv) (j := 1) (v := jI y0) (z := x1) f1) rfl
  · rw [if_neg q1] at e
    refine ey_neq (cd_79 rfl) rfl rfl (show jw 2 = 2 from by decide) q1 ?_
    refine ey_iload_n (cd_79 rfl) (jup_pi (lv := lv) (j := 1) (v := jI y0) (z := x1) f1) ?_
    refine ey_iconst (cd_79 rfl) ?_
    by_cases q54 : (jw x1) = 3
    · rw [if_pos q54] at e
      refine ey_ceq (cd_79 rfl) rfl rfl (show jw 3 = 3 from by decide) q54 ?_
      exact jk_79_b42 e (jup lv 2 (jI y0)) f0 (jup_pi (lv := lv) (j := 1) (v := jI y0) (z := x1) f1) rfl
    · rw [if_neg q54] at e
      refine ey_neq (cd_79 rfl) rfl rfl (show jw 3 = 3 from by decide) q54 ?_
      refine ey_iload_n (cd_79 rfl) (jup_pi (lv := lv) (j := 1) (v := jI y0) (z := x1) f1) ?_
      by_cases q55 : (jw x1) = 0
      · rw [if_pos q55] at e
        refine ey_yne (cd_79 rfl) rfl rfl (fun w => w q55) ?_
        refine ey_aload_n (cd_79 rfl) f0 ?_
        obtain ⟨v56, e57, e⟩ := jbind e
        refine ey_getf_i (cd_79 rfl) mt_79 rfl rfl rfl e57 ?_
        refine ey_iconst (cd_79 rfl) ?_
        have K58 : ∀ lv : jL, lv 0 = some (jR (some this)) → lv 1 = some (jI x1) → lv 2 = some (jI y0) → ey (mm_xt L xs) 2 79 47 lv [jI (if (jw v56) = 2 then 1 else 0)] h (.inl (none, jaH o)) := by
          intro lv g0 g1 g2
          exact jk_79_b47 e lv g0 g1 g2
        by_cases q59 : (jw v56) = 2
        · refine ey_nne (cd_79 rfl) rfl rfl (show jw 2 = 2 from by decide) (fun w => w q59) ?_
          refine ey_iconst (cd_79 rfl) ?_
          refine ey_goto (cd_79 rfl) rfl ?_
          exact ey_rs (s0 := [jI 1]) (s1 := [jI (if (jw v56) = 2 then 1 else 0)]) (by rw [show ((if (jw v56) = 2 then 1 else 0) : Int) = 1 from (if_pos q59)]) (K58 (jup lv 2 (jI y0)) f0 (jup_pi (lv := lv) (j := 1) (v := jI y0) (z := x1) f1) rfl)
        · refine ey_cne (cd_79 rfl) rfl rfl (show jw 2 = 2 from by decide) q59 ?_
          refine ey_iconst (cd_79 rfl) ?_
          exact ey_rs (s0 := [jI 0]) (s1 := [jI (if (jw v56) = 2 then 1 else 0)]) (by rw [show ((if (jw v56) = 2 then 1 else 0) : Int) = 0 from (if_neg q59)]) (K58 (jup lv 2 (jI y0)) f0 (jup_pi (lv := lv) (j := 1) (v := jI y0) (z := x1) f1) rfl)
      · rw [if_neg q55] at e
        refine ey_zne (cd_79 rfl) rfl rfl q55 ?_
        refine ey_iconst (cd_79 rfl) ?_
        exact jk_79_b47 e (jup lv 2 (jI y0)) f0 (jup_pi (lv := lv) (j := 1) (v := jI y0) (z := x1) f1) rfl
set_option maxRecDepth 100000 in
theorem ok_79 {L : Nat} {xs : Nat → Int32} {this : Nat} {p0 : Int} {h : jH} {o : jH} (e : jd_79 this p0 h = some o) : mm_Runs (mm_xt L xs) 3 79 ([jR (some this), jI p0].map jcv) (jaH h) (.inl (none, jaH o)) := by
  refine ey_run0 _ mt_79 (jsl_s rfl) ?_
  unfold jd_79 at e
  refine ey_iload_n (cd_79 rfl) rfl ?_
  refine ey_iconst (cd_79 rfl) ?_
  have K60 : ∀ lv : jL, lv 0 = some (jR (some this)) → lv 1 = some (jI p0) → ey (mm_xt L xs) 2 79 19 lv [jI (if (jw p0) = 1 then 1 else (if (jw p0) = 3 then 1 else (if (jw p0) = 0 then 1 else 0)))] h (.inl (none, jaH o)) := by
    intro lv g0 g1
    exact jk_79_b19 e lv g0 g1
  by_cases q61 : (jw p0) = 1
  · refine ey_ceq (cd_79 rfl) rfl rfl (show jw 1 = 1 from by decide) q61 ?_
    refine ey_iconst (cd_79 rfl) ?_
    refine ey_goto (cd_79 rfl) rfl ?_
    exact ey_rs (s0 := [jI 1]) (s1 := [jI (if (jw p0) = 1 then 1 else (if (jw p0) = 3 then 1 else (if (jw p0) = 0 then 1 else 0)))]) (by rw [show ((if (jw p0) = 1 then 1 else (if (jw p0) = 3 then 1 else (if (jw p0) = 0 then 1 else 0))) : Int) = 1 from (if_pos q61)]) (K60 (jlf (jla 0 [jR (some this), jI p0])) rfl rfl)
  · refine ey_neq (cd_79 rfl) rfl rfl (show jw 1 = 1 from by decide) q61 ?_
    refine ey_iload_n (cd_79 rfl) rfl ?_
    refine ey_iconst (cd_79 rfl) ?_
    by_cases q62 : (jw p0) = 3
    · refine ey_ceq (cd_79 rfl) rfl rfl (show jw 3 = 3 from by decide) q62 ?_
      refine ey_iconst (cd_79 rfl) ?_
      refine ey_goto (cd_79 rfl) rfl ?_
      exact ey_rs (s0 := [jI 1]) (s1 := [jI (if (jw p0) = 1 then 1 else (if (jw p0) = 3 then 1 else (if (jw p0) = 0 then 1 else 0)))]) (by rw [show ((if (jw p0) = 1 then 1 else (if (jw p0) = 3 then 1 else (if (jw p0) = 0 then 1 else 0))) : Int) = 1 from ((if_neg q61).trans (if_pos q62))]) (K60 (jlf (jla 0 [jR (some this), jI p0])) rfl rfl)
    · refine ey_neq (cd_79 rfl) rfl rfl (show jw 3 = 3 from by decide) q62 ?_
      refine ey_iload_n (cd_79 rfl) rfl ?_
      by_cases q63 : (jw p0) = 0
      · refine ey_yne (cd_79 rfl) rfl rfl (fun w => w q63) ?_
        refine ey_iconst (cd_79 rfl) ?_
        refine ey_goto (cd_79 rfl) rfl ?_
        exact ey_rs (s0 := [jI 1]) (s1 := [jI (if (jw p0) = 1 then 1 else (if (jw p0) = 3 then 1 else (if (jw p0) = 0 then 1 else 0)))]) (by rw [show ((if (jw p0) = 1 then 1 else (if (jw p0) = 3 then 1 else (if (jw p0) = 0 then 1 else 0))) : Int) = 1 from ((if_neg q61).trans ((if_neg q62).trans (if_pos q63)))]) (K60 (jlf (jla 0 [jR (some this), jI p0])) rfl rfl)
      · refine ey_zne (cd_79 rfl) rfl rfl q63 ?_
        refine ey_iconst (cd_79 rfl) ?_
        exact ey_rs (s0 := [jI 0]) (s1 := [jI (if (jw p0) = 1 then 1 else (if (jw p0) = 3 then 1 else (if (jw p0) = 0 then 1 else 0)))]) (by rw [show ((if (jw p0) = 1 then 1 else (if (jw p0) = 3 then 1 else (if (jw p0) = 0 then 1 else 0))) : Int) = 0 from ((if_neg q61).trans ((if_neg q62).trans (if_neg q63)))]) (K60 (jlf (jla 0 [jR (some this), jI p0])) rfl rfl)
theorem cd_90 {pc : Nat} {i : Instr × Nat} (h : mm_lk mm_c90 pc = some i) : mm_cd 90 pc = some i := h
theorem mt_90 : mm_MT 90 = (5, 2, none, 0, 0, []) := rfl
set_option maxRecDepth 100000 in
theorem jk_90_s2 {L : Nat} {xs : Nat → Int32} {this : Nat} {x1 : Int} {h : jH} {o : ((Int × jH) ⊕ jH)} {r : mm_R} (e : jd_90_s2 this x1 h = some o) (K : jsm (fun s => (∀ lv : jL, lv 0 = some (jR (some this)) → lv 1 = some (jI s.1) → ey (mm_xt L xs) 0 90 2 lv [] s.2 r)) (fun x => (∀ lv : jL, ey (mm_xt L xs) 0 90 26 lv [] x r)) o) : ∀ lv : jL, lv 0 = some (jR (some this)) → lv 1 = some (jI x1) → ey (mm_xt L xs) 0 90 2 lv [] h r := by
  intro lv f0 f1
  unfold jd_90_s2 at e
  refine ey_iload_n (cd_90 rfl) f1 ?_
  refine ey_bipush (cd_90 rfl) (by decide) ?_
  by_cases q1 : 96 ≤ (jw x1)
  · rw [if_pos q1] at e
    refine ey_cge (cd_90 rfl) rfl rfl (show jw 96 = 96 from by decide) q1 ?_
    cases e
    exact K lv 
  · rw [if_neg q1] at e
    refine ey_nge (cd_90 rfl) rfl rfl (show jw 96 = 96 from by decide) q1 ?_
    refine ey_aload_n (cd_90 rfl) f0 ?_
    obtain ⟨r2, e3, e⟩ := jbind e
    refine ey_getf_r (cd_90 rfl) mt_90 rfl rfl rfl e3 ?_
    refine ey_iload_n (cd_90 rfl) f1 ?_
    refine ey_aload_n (cd_90 rfl) f0 ?_
    obtain ⟨r4, e5, e⟩ := jbind e
    refine ey_getf_r (cd_90 rfl) mt_90 rfl rfl rfl e5 ?_
    refine ey_iload_n (cd_90 rfl) f1 ?_
    obtain ⟨a6, e7, e⟩ := jbind e
    refine ey_rs (s0 := [jI x1, jR r4, jI x1, jR r2]) (s1 := [jI x1, jR (some a6), jI x1, jR r2]) (by rw [e7]) ?_
    obtain ⟨v8, e9, e⟩ := jbind e
    refine ey_iald (cd_90 rfl) e9 ?_
    obtain ⟨a10, e11, e⟩ := jbind e
    refine ey_rs (s0 := [jI v8, jI x1, jR r2]) (s1 := [jI v8, jI x1, jR (some a10)]) (by rw [e11]) ?_
    obtain ⟨h12, e13, e⟩ := jbind e
    refine ey_iast (cd_90 rfl) e13 ?_
    refine ey_iinc (cd_90 rfl) mt_90 rfl f1 ?_
    refine ey_goto (cd_90 rfl) rfl ?_
    cases e
    exact K (jup lv 1 (jI (x1 + 1))) (jup_pr (lv := lv) (j := 0) (v := jI (x1 + 1)) (z := (some this)) f0) rfl
theorem jk_90_l2 {L : Nat} {xs : Nat → Int32} {this : Nat} {x1 : Int} {h : jH} {x : jH} {r : mm_R} (e : jd_90_l2 this x1 h = some x) (K : (∀ lv : jL, ey (mm_xt L xs) 0 90 26 lv [] x r)) : ∀ lv : jL, lv 0 = some (jR (some this)) → lv 1 = some (jI x1) → ey (mm_xt L xs) 0 90 2 lv [] h r := by
  unfold jd_90_l2 at e
  exact jlp_ok2 (P := fun s => ∀ lv : jL, lv 0 = some (jR (some this)) → lv 1 = some (jI s.1) → ey (mm_xt L xs) 0 90 2 lv [] s.2 r) (Q := fun x => (∀ lv : jL, ey (mm_xt L xs) 0 90 26 lv [] x r)) (fun s q hq hk => jk_90_s2 hq hk) jfu _ x e K
set_option maxRecDepth 100000 in
theorem ok_90 {L : Nat} {xs : Nat → Int32} {this : Nat}  {h : jH} {o : jH} (e : jd_90 this  h = some o) : mm_Runs (mm_xt L xs) 1 90 ([jR (some this)].map jcv) (jaH h) (.inl (none, jaH o)) := by
  refine ey_run0 _ mt_90 (jsl_s rfl) ?_
  unfold jd_90 at e
  refine ey_iconst (cd_90 rfl) ?_
  refine ey_istore_n (cd_90 rfl) mt_90 rfl ?_
  obtain ⟨x14, e15, e⟩ := jbind e
  refine jk_90_l2 e15 ?_ (jup (jlf (jla 0 [jR (some this)])) 1 (jI 0)) (jup_pr (lv := (jlf (jla 0 [jR (some this)]))) (j := 0) (v := jI 0) (z := (some this)) rfl) rfl
  intro lv 
  cases e
  exact ey_retv (cd_90 rfl) mt_90 rfl
theorem cd_86 {pc : Nat} {i : Instr × Nat} (h : mm_lk mm_c86 pc = some i) : mm_cd 86 pc = some i := h
theorem mt_86 : mm_MT 86 = (5, 2, some .int, 2, 1, []) := rfl
set_option maxRecDepth 100000 in
theorem ok_86 {L : Nat} {xs : Nat → Int32} {p0 : Int} {p1 : Int} {h : jH} : mm_Runs (mm_xt L xs) 1 86 ([jI p0, jI p1].map jcv) (jaH h) (.inl (some (jcv (jI (jd_86 p0 p1))), jaH h)) := by
  refine ey_run0 _ mt_86 (jsl_s rfl) ?_
  refine ey_iload_n (cd_86 rfl) rfl ?_
  refine ey_iconst (cd_86 rfl) ?_
  by_cases q1 : (jw p0) < 4
  · refine ey_clt (cd_86 rfl) rfl rfl (show jw 4 = 4 from by decide) q1 ?_
    refine ey_iload_n (cd_86 rfl) rfl ?_
    refine ey_iconst (cd_86 rfl) ?_
    refine ey_ishr (cd_86 rfl) ?_
    refine ey_iconst (cd_86 rfl) ?_
    refine ey_imul (cd_86 rfl) ?_
    refine ey_iload_n (cd_86 rfl) rfl ?_
    refine ey_iconst (cd_86 rfl) ?_
    refine ey_ishr (cd_86 rfl) ?_
    refine ey_iadd (cd_86 rfl) ?_
    refine ey_bipush (cd_86 rfl) (by decide) ?_
    refine ey_imul (cd_86 rfl) ?_
    refine ey_iload_n (cd_86 rfl) rfl ?_
    refine ey_iconst (cd_86 rfl) ?_
    refine ey_iand (cd_86 rfl) ?_
    refine ey_iconst (cd_86 rfl) ?_
    refine ey_imul (cd_86 rfl) ?_
    refine ey_iadd (cd_86 rfl) ?_
    refine ey_iload_n (cd_86 rfl) rfl ?_
    refine ey_iconst (cd_86 rfl) ?_
    refine ey_iand (cd_86 rfl) ?_
    refine ey_iadd (cd_86 rfl) ?_
    rw [show (jd_86 p0 p1) = ((((((jshr p0 1) * 4) + (jshr p1 2)) * 8) + ((jand p0 1) * 4)) + (jand p1 3)) from by unfold jd_86; exact (if_pos q1)]
    exact ey_reti (cd_86 rfl) mt_86 rfl
  · refine ey_nlt (cd_86 rfl) rfl rfl (show jw 4 = 4 from by decide) q1 ?_
    refine ey_bipush (cd_86 rfl) (by decide) ?_
    refine ey_iload_n (cd_86 rfl) rfl ?_
    refine ey_imul (cd_86 rfl) ?_
    refine ey_iload_n (cd_86 rfl) rfl ?_
    refine ey_iadd (cd_86 rfl) ?_
    rw [show (jd_86 p0 p1) = ((16 * p0) + p1) from by unfold jd_86; exact (if_neg q1)]
    exact ey_reti (cd_86 rfl) mt_86 rfl
theorem cd_88 {pc : Nat} {i : Instr × Nat} (h : mm_lk mm_c88 pc = some i) : mm_cd 88 pc = some i := h
theorem mt_88 : mm_MT 88 = (5, 7, none, 3, 1, []) := rfl
set_option maxRecDepth 100000 in
theorem ok_88 {L : Nat} {xs : Nat → Int32} {p0 : Option Nat} {p1 : Int} {p2 : Int} {h : jH} {o : jH} (e : jd_88 p0 p1 p2 h = some o) : mm_Runs (mm_xt L xs) 1 88 ([jR p0, jI p1, jI p2].map jcv) (jaH h) (.inl (none, jaH o)) := by
  refine ey_run0 _ mt_88 (jsl_s rfl) ?_
  unfold jd_88 at e
  refine ey_aload_n (cd_88 rfl) rfl ?_
  refine ey_iload_n (cd_88 rfl) rfl ?_
  obtain ⟨a1, e2, e⟩ := jbind e
  refine ey_rs (s0 := [jI p1, jR p0]) (s1 := [jI p1, jR (some a1)]) (by rw [e2]) ?_
  obtain ⟨v3, e4, e⟩ := jbind e
  refine ey_iald (cd_88 rfl) e4 ?_
  refine ey_istore_n (cd_88 rfl) mt_88 rfl ?_
  refine ey_aload_n (cd_88 rfl) rfl ?_
  refine ey_iload_n (cd_88 rfl) rfl ?_
  refine ey_iload_n (cd_88 rfl) (jup_pi (lv := (jlf (jla 0 [jR p0, jI p1, jI p2]))) (j := 2) (v := jI v3) (z := p2) rfl) ?_
  refine ey_iadd (cd_88 rfl) ?_
  obtain ⟨a5, e6, e⟩ := jbind e
  refine ey_rs (s0 := [jI (p1 + p2), jR p0]) (s1 := [jI (p1 + p2), jR (some a5)]) (by rw [e6]) ?_
  obtain ⟨v7, e8, e⟩ := jbind e
  refine ey_iald (cd_88 rfl) e8 ?_
  refine ey_istore (cd_88 rfl) mt_88 rfl ?_
  refine ey_aload_n (cd_88 rfl) rfl ?_
  refine ey_iload_n (cd_88 rfl) rfl ?_
  refine ey_iconst (cd_88 rfl) ?_
  refine ey_iload_n (cd_88 rfl) (jup_o rfl (jup_pi (lv := (jlf (jla 0 [jR p0, jI p1, jI p2]))) (j := 2) (v := jI v3) (z := p2) rfl)) ?_
  refine ey_imul (cd_88 rfl) ?_
  refine ey_iadd (cd_88 rfl) ?_
  obtain ⟨a9, e10, e⟩ := jbind e
  refine ey_rs (s0 := [jI (p1 + (2 * p2)), jR p0]) (s1 := [jI (p1 + (2 * p2)), jR (some a9)]) (by rw [e10]) ?_
  obtain ⟨v11, e12, e⟩ := jbind e
  refine ey_iald (cd_88 rfl) e12 ?_
  refine ey_istore (cd_88 rfl) mt_88 rfl ?_
  refine ey_aload_n (cd_88 rfl) rfl ?_
  refine ey_iload_n (cd_88 rfl) rfl ?_
  refine ey_iconst (cd_88 rfl) ?_
  refine ey_iload_n (cd_88 rfl) (jup_o rfl (jup_o rfl (jup_pi (lv := (jlf (jla 0 [jR p0, jI p1, jI p2]))) (j := 2) (v := jI v3) (z := p2) rfl))) ?_
  refine ey_imul (cd_88 rfl) ?_
  refine ey_iadd (cd_88 rfl) ?_
  obtain ⟨a13, e14, e⟩ := jbind e
  refine ey_rs (s0 := [jI (p1 + (3 * p2)), jR p0]) (s1 := [jI (p1 + (3 * p2)), jR (some a13)]) (by rw [e14]) ?_
  obtain ⟨v15, e16, e⟩ := jbind e
  refine ey_iald (cd_88 rfl) e16 ?_
  refine ey_istore (cd_88 rfl) mt_88 rfl ?_
  refine ey_aload_n (cd_88 rfl) rfl ?_
  refine ey_iload_n (cd_88 rfl) rfl ?_
  refine ey_iload_n (cd_88 rfl) (jup_o rfl (jup_o rfl (jup_pi (lv := (jup (jlf (jla 0 [jR p0, jI p1, jI p2])) 3 (jI v3))) (j := 3) (v := jI v7) (z := v3) rfl))) ?_
  refine ey_iload (cd_88 rfl) (jup_o rfl (jup_pi (lv := (jup (jup (jlf (jla 0 [jR p0, jI p1, jI p2])) 3 (jI v3)) 4 (jI v7))) (j := 4) (v := jI v11) (z := v7) rfl)) ?_
  refine ey_iadd (cd_88 rfl) ?_
  refine ey_iload (cd_88 rfl) (jup_pi (lv := (jup (jup (jup (jlf (jla 0 [jR p0, jI p1, jI p2])) 3 (jI v3)) 4 (jI v7)) 5 (jI v11))) (j := 5) (v := jI v15) (z := v11) rfl) ?_
  refine ey_iadd (cd_88 rfl) ?_
  refine ey_iload (cd_88 rfl) rfl ?_
  refine ey_iadd (cd_88 rfl) ?_
  obtain ⟨a17, e18, e⟩ := jbind e
  refine ey_rs (s0 := [jI (((v3 + v7) + v11) + v15), jI p1, jR p0]) (s1 := [jI (((v3 + v7) + v11) + v15), jI p1, jR (some a17)]) (by rw [e18]) ?_
  obtain ⟨h19, e20, e⟩ := jbind e
  refine ey_iast (cd_88 rfl) e20 ?_
  refine ey_aload_n (cd_88 rfl) rfl ?_
  refine ey_iload_n (cd_88 rfl) rfl ?_
  refine ey_iload_n (cd_88 rfl) (jup_o rfl (jup_o rfl (jup_o rfl (jup_pi (lv := (jlf (jla 0 [jR p0, jI p1, jI p2]))) (j := 2) (v := jI v3) (z := p2) rfl)))) ?_
  refine ey_iadd (cd_88 rfl) ?_
  refine ey_iload_n (cd_88 rfl) (jup_o rfl (jup_o rfl (jup_pi (lv := (jup (jlf (jla 0 [jR p0, jI p1, jI p2])) 3 (jI v3))) (j := 3) (v := jI v7) (z := v3) rfl))) ?_
  refine ey_iload (cd_88 rfl) (jup_o rfl (jup_pi (lv := (jup (jup (jlf (jla 0 [jR p0, jI p1, jI p2])) 3 (jI v3)) 4 (jI v7))) (j := 4) (v := jI v11) (z := v7) rfl)) ?_
  refine ey_iadd (cd_88 rfl) ?_
  refine ey_iload (cd_88 rfl) (jup_pi (lv := (jup (jup (jup (jlf (jla 0 [jR p0, jI p1, jI p2])) 3 (jI v3)) 4 (jI v7)) 5 (jI v11))) (j := 5) (v := jI v15) (z := v11) rfl) ?_
  refine ey_isub (cd_88 rfl) ?_
  refine ey_iload (cd_88 rfl) rfl ?_
  refine ey_isub (cd_88 rfl) ?_
  obtain ⟨a21, e22, e⟩ := jbind e
  refine ey_rs (s0 := [jI (((v3 + v7) - v11) - v15), jI (p1 + p2), jR p0]) (s1 := [jI (((v3 + v7) - v11) - v15), jI (p1 + p2), jR (some a21)]) (by rw [e22]) ?_
  obtain ⟨h23, e24, e⟩ := jbind e
  refine ey_iast (cd_88 rfl) e24 ?_
  refine ey_aload_n (cd_88 rfl) rfl ?_
  refine ey_iload_n (cd_88 rfl) rfl ?_
  refine ey_iconst (cd_88 rfl) ?_
  refine ey_iload_n (cd_88 rfl) (jup_o rfl (jup_o rfl (jup_o rfl (jup_pi (lv := (jlf (jla 0 [jR p0, jI p1, jI p2]))) (j := 2) (v := jI v3) (z := p2) rfl)))) ?_
  refine ey_imul (cd_88 rfl) ?_
  refine ey_iadd (cd_88 rfl) ?_
  refine ey_iload_n (cd_88 rfl) (jup_o rfl (jup_o rfl (jup_pi (lv := (jup (jlf (jla 0 [jR p0, jI p1, jI p2])) 3 (jI v3))) (j := 3) (v := jI v7) (z := v3) rfl))) ?_
  refine ey_iload (cd_88 rfl) (jup_o rfl (jup_pi (lv := (jup (jup (jlf (jla 0 [jR p0, jI p1, jI p2])) 3 (jI v3)) 4 (jI v7))) (j := 4) (v := jI v11) (z := v7) rfl)) ?_
  refine ey_isub (cd_88 rfl) ?_
  refine ey_iload (cd_88 rfl) (jup_pi (lv := (jup (jup (jup (jlf (jla 0 [jR p0, jI p1, jI p2])) 3 (jI v3)) 4 (jI v7)) 5 (jI v11))) (j := 5) (v := jI v15) (z := v11) rfl) ?_
  refine ey_isub (cd_88 rfl) ?_
  refine ey_iload (cd_88 rfl) rfl ?_
  refine ey_iadd (cd_88 rfl) ?_
  obtain ⟨a25, e26, e⟩ := jbind e
  refine ey_rs (s0 := [jI (((v3 - v7) - v11) + v15), jI (p1 + (2 * p2)), jR p0]) (s1 := [jI (((v3 - v7) - v11) + v15), jI (p1 + (2 * p2)), jR (some a25)]) (by rw [e26]) ?_
  obtain ⟨h27, e28, e⟩ := jbind e
  refine ey_iast (cd_88 rfl) e28 ?_
  refine ey_aload_n (cd_88 rfl) rfl ?_
  refine ey_iload_n (cd_88 rfl) rfl ?_
  refine ey_iconst (cd_88 rfl) ?_
  refine ey_iload_n (cd_88 rfl) (jup_o rfl (jup_o rfl (jup_o rfl (jup_pi (lv := (jlf (jla 0 [jR p0, jI p1, jI p2]))) (j := 2) (v := jI v3) (z := p2) rfl)))) ?_
  refine ey_imul (cd_88 rfl) ?_
  refine ey_iadd (cd_88 rfl) ?_
  refine ey_iload_n (cd_88 rfl) (jup_o rfl (jup_o rfl (jup_pi (lv := (jup (jlf (jla 0 [jR p0, jI p1, jI p2])) 3 (jI v3))) (j := 3) (v := jI v7) (z := v3) rfl))) ?_
  refine ey_iload (cd_88 rfl) (jup_o rfl (jup_pi (lv := (jup (jup (jlf (jla 0 [jR p0, jI p1, jI p2])) 3 (jI v3)) 4 (jI v7))) (j := 4) (v := jI v11) (z := v7) rfl)) ?_
  refine ey_isub (cd_88 rfl) ?_
  refine ey_iload (cd_88 rfl) (jup_pi (lv := (jup (jup (jup (jlf (jla 0 [jR p0, jI p1, jI p2])) 3 (jI v3)) 4 (jI v7)) 5 (jI v11))) (j := 5) (v := jI v15) (z := v11) rfl) ?_
  refine ey_iadd (cd_88 rfl) ?_
  refine ey_iload (cd_88 rfl) rfl ?_
  refine ey_isub (cd_88 rfl) ?_
  obtain ⟨a29, e30, e⟩ := jbind e
  refine ey_rs (s0 := [jI (((v3 - v7) + v11) - v15), jI (p1 + (3 * p2)), jR p0]) (s1 := [jI (((v3 - v7) + v11) - v15), jI (p1 + (3 * p2)), jR (some a29)]) (by rw [e30]) ?_
  obtain ⟨h31, e32, e⟩ := jbind e
  refine ey_iast (cd_88 rfl) e32 ?_
  cases e
  exact ey_retv (cd_88 rfl) mt_88 rfl
theorem cd_87 {pc : Nat} {i : Instr × Nat} (h : mm_lk mm_c87 pc = some i) : mm_cd 87 pc = some i := h
theorem mt_87 : mm_MT 87 = (5, 2, none, 1, 1, []) := rfl
set_option maxRecDepth 100000 in
theorem jk_87_s2 {L : Nat} {xs : Nat → Int32} {x0 : Option Nat} {x1 : Int} {h : jH} {o : ((Int × jH) ⊕ jH)} {r : mm_R} (e : jd_87_s2 x0 x1 h = some o) (K : jsm (fun s => (∀ lv : jL, lv 0 = some (jR x0) → lv 1 = some (jI s.1) → ey (mm_xt L xs) 1 87 2 lv [] s.2 r)) (fun x => (∀ lv : jL, lv 0 = some (jR x0) → ey (mm_xt L xs) 1 87 20 lv [] x r)) o) : ∀ lv : jL, lv 0 = some (jR x0) → lv 1 = some (jI x1) → ey (mm_xt L xs) 1 87 2 lv [] h r := by
  intro lv f0 f1
  unfold jd_87_s2 at e
  refine ey_iload_n (cd_87 rfl) f1 ?_
  refine ey_bipush (cd_87 rfl) (by decide) ?_
  by_cases q1 : 16 ≤ (jw x1)
  · rw [if_pos q1] at e
    refine ey_cge (cd_87 rfl) rfl rfl (show jw 16 = 16 from by decide) q1 ?_
    cases e
    exact K lv f0
  · rw [if_neg q1] at e
    refine ey_nge (cd_87 rfl) rfl rfl (show jw 16 = 16 from by decide) q1 ?_
    refine ey_aload_n (cd_87 rfl) f0 ?_
    refine ey_iload_n (cd_87 rfl) f1 ?_
    refine ey_iconst (cd_87 rfl) ?_
    obtain ⟨h2, e3, e⟩ := jbind e
    refine ey_cs (s0 := [jI 1, jI x1, jR x0]) (s1 := []) (st' := []) (cd_87 rfl) mt_87 mt_88 rfl (by decide) rfl rfl (jsml_s rfl) rfl (ok_88 e3) ?_
    refine ey_iinc (cd_87 rfl) mt_87 rfl f1 ?_
    refine ey_goto (cd_87 rfl) rfl ?_
    cases e
    exact K (jup lv 1 (jI (x1 + 4))) (jup_pr (lv := lv) (j := 0) (v := jI (x1 + 4)) (z := x0) f0) rfl
theorem jk_87_l2 {L : Nat} {xs : Nat → Int32} {x0 : Option Nat} {x1 : Int} {h : jH} {x : jH} {r : mm_R} (e : jd_87_l2 x0 x1 h = some x) (K : (∀ lv : jL, lv 0 = some (jR x0) → ey (mm_xt L xs) 1 87 20 lv [] x r)) : ∀ lv : jL, lv 0 = some (jR x0) → lv 1 = some (jI x1) → ey (mm_xt L xs) 1 87 2 lv [] h r := by
  unfold jd_87_l2 at e
  exact jlp_ok2 (P := fun s => ∀ lv : jL, lv 0 = some (jR x0) → lv 1 = some (jI s.1) → ey (mm_xt L xs) 1 87 2 lv [] s.2 r) (Q := fun x => (∀ lv : jL, lv 0 = some (jR x0) → ey (mm_xt L xs) 1 87 20 lv [] x r)) (fun s q hq hk => jk_87_s2 hq hk) jfu _ x e K
set_option maxRecDepth 100000 in
theorem jk_87_s22 {L : Nat} {xs : Nat → Int32} {x0 : Option Nat} {x1 : Int} {h : jH} {o : ((Int × jH) ⊕ jH)} {r : mm_R} (e : jd_87_s22 x0 x1 h = some o) (K : jsm (fun s => (∀ lv : jL, lv 0 = some (jR x0) → lv 1 = some (jI s.1) → ey (mm_xt L xs) 1 87 22 lv [] s.2 r)) (fun x => (∀ lv : jL, ey (mm_xt L xs) 1 87 39 lv [] x r)) o) : ∀ lv : jL, lv 0 = some (jR x0) → lv 1 = some (jI x1) → ey (mm_xt L xs) 1 87 22 lv [] h r := by
  intro lv f0 f1
  unfold jd_87_s22 at e
  refine ey_iload_n (cd_87 rfl) f1 ?_
  refine ey_iconst (cd_87 rfl) ?_
  by_cases q6 : 4 ≤ (jw x1)
  · rw [if_pos q6] at e
    refine ey_cge (cd_87 rfl) rfl rfl (show jw 4 = 4 from by decide) q6 ?_
    cases e
    exact K lv 
  · rw [if_neg q6] at e
    refine ey_nge (cd_87 rfl) rfl rfl (show jw 4 = 4 from by decide) q6 ?_
    refine ey_aload_n (cd_87 rfl) f0 ?_
    refine ey_iload_n (cd_87 rfl) f1 ?_
    refine ey_iconst (cd_87 rfl) ?_
    obtain ⟨h7, e8, e⟩ := jbind e
    refine ey_cs (s0 := [jI 4, jI x1, jR x0]) (s1 := []) (st' := []) (cd_87 rfl) mt_87 mt_88 rfl (by decide) rfl rfl (jsml_s rfl) rfl (ok_88 e8) ?_
    refine ey_iinc (cd_87 rfl) mt_87 rfl f1 ?_
    refine ey_goto (cd_87 rfl) rfl ?_
    cases e
    exact K (jup lv 1 (jI (x1 + 1))) (jup_pr (lv := lv) (j := 0) (v := jI (x1 + 1)) (z := x0) f0) rfl
theorem jk_87_l22 {L : Nat} {xs : Nat → Int32} {x0 : Option Nat} {x1 : Int} {h : jH} {x : jH} {r : mm_R} (e : jd_87_l22 x0 x1 h = some x) (K : (∀ lv : jL, ey (mm_xt L xs) 1 87 39 lv [] x r)) : ∀ lv : jL, lv 0 = some (jR x0) → lv 1 = some (jI x1) → ey (mm_xt L xs) 1 87 22 lv [] h r := by
  unfold jd_87_l22 at e
  exact jlp_ok2 (P := fun s => ∀ lv : jL, lv 0 = some (jR x0) → lv 1 = some (jI s.1) → ey (mm_xt L xs) 1 87 22 lv [] s.2 r) (Q := fun x => (∀ lv : jL, ey (mm_xt L xs) 1 87 39 lv [] x r)) (fun s q hq hk => jk_87_s22 hq hk) jfu _ x e K
set_option maxRecDepth 100000 in
theorem ok_87 {L : Nat} {xs : Nat → Int32} {p0 : Option Nat} {h : jH} {o : jH} (e : jd_87 p0 h = some o) : mm_Runs (mm_xt L xs) 2 87 ([jR p0].map jcv) (jaH h) (.inl (none, jaH o)) := by
  refine ey_run0 _ mt_87 (jsl_s rfl) ?_
  unfold jd_87 at e
  refine ey_iconst (cd_87 rfl) ?_
  refine ey_istore_n (cd_87 rfl) mt_87 rfl ?_
  obtain ⟨x4, e5, e⟩ := jbind e
  refine jk_87_l2 e5 ?_ (jup (jlf (jla 0 [jR p0])) 1 (jI 0)) (jup_pr (lv := (jlf (jla 0 [jR p0]))) (j := 0) (v := jI 0) (z := p0) rfl) rfl
  intro lv g0
  refine ey_iconst (cd_87 rfl) ?_
  refine ey_istore_n (cd_87 rfl) mt_87 rfl ?_
  obtain ⟨x9, e10, e⟩ := jbind e
  refine jk_87_l22 e10 ?_ (jup lv 1 (jI 0)) (jup_pr (lv := lv) (j := 0) (v := jI 0) (z := p0) g0) rfl
  intro lv 
  cases e
  exact ey_retv (cd_87 rfl) mt_87 rfl
theorem cd_183 {pc : Nat} {i : Instr × Nat} (h : mm_lk mm_c183 pc = some i) : mm_cd 183 pc = some i := h
theorem mt_183 : mm_MT 183 = (11, 1, some .int, 1, 1, []) := rfl
set_option maxRecDepth 100000 in
theorem ok_183 {L : Nat} {xs : Nat → Int32} {p0 : Int} {h : jH} : mm_Runs (mm_xt L xs) 1 183 ([jI p0].map jcv) (jaH h) (.inl (some (jcv (jI (jd_183 p0))), jaH h)) := by
  refine ey_run0 _ mt_183 (jsl_s rfl) ?_
  refine ey_iload_n (cd_183 rfl) rfl ?_
  by_cases q1 : 0 ≤ (jw p0)
  · refine ey_zge (cd_183 rfl) rfl rfl q1 ?_
    refine ey_iload_n (cd_183 rfl) rfl ?_
    refine ey_sipush (cd_183 rfl) (by decide) ?_
    by_cases q2 : (jw p0) ≤ 255
    · refine ey_cle (cd_183 rfl) rfl rfl (show jw 255 = 255 from by decide) q2 ?_
      refine ey_iload_n (cd_183 rfl) rfl ?_
      rw [show (jd_183 p0) = p0 from by unfold jd_183; exact ((if_pos q1).trans (if_pos q2))]
      exact ey_reti (cd_183 rfl) mt_183 rfl
    · refine ey_nle (cd_183 rfl) rfl rfl (show jw 255 = 255 from by decide) q2 ?_
      refine ey_sipush (cd_183 rfl) (by decide) ?_
      refine ey_goto (cd_183 rfl) rfl ?_
      rw [show (jd_183 p0) = 255 from by unfold jd_183; exact ((if_pos q1).trans (if_neg q2))]
      exact ey_reti (cd_183 rfl) mt_183 rfl
  · refine ey_yge (cd_183 rfl) rfl rfl q1 ?_
    refine ey_iconst (cd_183 rfl) ?_
    refine ey_goto (cd_183 rfl) rfl ?_
    rw [show (jd_183 p0) = 0 from by unfold jd_183; exact (if_neg q1)]
    exact ey_reti (cd_183 rfl) mt_183 rfl
theorem cd_91 {pc : Nat} {i : Instr × Nat} (h : mm_lk mm_c91 pc = some i) : mm_cd 91 pc = some i := h
theorem mt_91 : mm_MT 91 = (5, 4, none, 1, 0, []) := rfl
set_option maxRecDepth 100000 in
theorem jk_91_s2 {L : Nat} {xs : Nat → Int32} {this : Nat} {x1 : Int} {x2 : Int} {h : jH} {o : ((Int × jH) ⊕ jH)} {r : mm_R} (e : jd_91_s2 this x1 x2 h = some o) (K : jsm (fun s => (∀ lv : jL, lv 0 = some (jR (some this)) → lv 1 = some (jI x1) → lv 2 = some (jI s.1) → ey (mm_xt L xs) 2 91 2 lv [] s.2 r)) (fun x => (∀ lv : jL, lv 0 = some (jR (some this)) → lv 1 = some (jI x1) → ey (mm_xt L xs) 2 91 40 lv [] x r)) o) : ∀ lv : jL, lv 0 = some (jR (some this)) → lv 1 = some (jI x1) → lv 2 = some (jI x2) → ey (mm_xt L xs) 2 91 2 lv [] h r := by
  intro lv f0 f1 f2
  unfold jd_91_s2 at e
  refine ey_iload_n (cd_91 rfl) f2 ?_
  refine ey_bipush (cd_91 rfl) (by decide) ?_
  by_cases q1 : 16 ≤ (jw x2)
  · rw [if_pos q1] at e
    refine ey_cge (cd_91 rfl) rfl rfl (show jw 16 = 16 from by decide) q1 ?_
    cases e
    exact K lv f0 f1
  · rw [if_neg q1] at e
    refine ey_nge (cd_91 rfl) rfl rfl (show jw 16 = 16 from by decide) q1 ?_
    refine ey_aload_n (cd_91 rfl) f0 ?_
    obtain ⟨r2, e3, e⟩ := jbind e
    refine ey_getf_r (cd_91 rfl) mt_91 rfl rfl rfl e3 ?_
    refine ey_gs (cd_91 rfl) mt_91 rfl rfl ?_
    refine ey_iload_n (cd_91 rfl) f2 ?_
    obtain ⟨v4, e5, e⟩ := jbind e
    refine ey_iast_x (cd_91 rfl) (by decide) e5 ?_
    refine ey_aload_n (cd_91 rfl) f0 ?_
    obtain ⟨r6, e7, e⟩ := jbind e
    refine ey_getf_r (cd_91 rfl) mt_91 rfl rfl rfl e7 ?_
    refine ey_bipush (cd_91 rfl) (by decide) ?_
    refine ey_iload_n (cd_91 rfl) f1 ?_
    refine ey_imul (cd_91 rfl) ?_
    refine ey_iload_n (cd_91 rfl) f2 ?_
    refine ey_iadd (cd_91 rfl) ?_
    obtain ⟨a8, e9, e⟩ := jbind e
    refine ey_rs (s0 := [jI ((16 * x1) + x2), jR r6, jI v4, jR r2]) (s1 := [jI ((16 * x1) + x2), jR (some a8), jI v4, jR r2]) (by rw [e9]) ?_
    obtain ⟨v10, e11, e⟩ := jbind e
    refine ey_iald (cd_91 rfl) e11 ?_
    refine ey_aload_n (cd_91 rfl) f0 ?_
    obtain ⟨v12, e13, e⟩ := jbind e
    refine ey_getf_i (cd_91 rfl) mt_91 rfl rfl rfl e13 ?_
    refine ey_imul (cd_91 rfl) ?_
    obtain ⟨a14, e15, e⟩ := jbind e
    refine ey_rs (s0 := [jI (v10 * v12), jI v4, jR r2]) (s1 := [jI (v10 * v12), jI v4, jR (some a14)]) (by rw [e15]) ?_
    obtain ⟨h16, e17, e⟩ := jbind e
    refine ey_iast (cd_91 rfl) e17 ?_
    refine ey_iinc (cd_91 rfl) mt_91 rfl f2 ?_
    refine ey_goto (cd_91 rfl) rfl ?_
    cases e
    exact K (jup lv 2 (jI (x2 + 1))) f0 (jup_pi (lv := lv) (j := 1) (v := jI (x2 + 1)) (z := x1) f1) rfl
theorem jk_91_l2 {L : Nat} {xs : Nat → Int32} {this : Nat} {x1 : Int} {x2 : Int} {h : jH} {x : jH} {r : mm_R} (e : jd_91_l2 this x1 x2 h = some x) (K : (∀ lv : jL, lv 0 = some (jR (some this)) → lv 1 = some (jI x1) → ey (mm_xt L xs) 2 91 40 lv [] x r)) : ∀ lv : jL, lv 0 = some (jR (some this)) → lv 1 = some (jI x1) → lv 2 = some (jI x2) → ey (mm_xt L xs) 2 91 2 lv [] h r := by
  unfold jd_91_l2 at e
  exact jlp_ok2 (P := fun s => ∀ lv : jL, lv 0 = some (jR (some this)) → lv 1 = some (jI x1) → lv 2 = some (jI s.1) → ey (mm_xt L xs) 2 91 2 lv [] s.2 r) (Q := fun x => (∀ lv : jL, lv 0 = some (jR (some this)) → lv 1 = some (jI x1) → ey (mm_xt L xs) 2 91 40 lv [] x r)) (fun s q hq hk => jk_91_s2 hq hk) jfu _ x e K
set_option maxRecDepth 100000 in
theorem jk_91_s49 {L : Nat} {xs : Nat → Int32} {this : Nat} {x1 : Int} {x2 : Int} {h : jH} {o : ((Int × jH) ⊕ jH)} {r : mm_R} (e : jd_91_s49 this x1 x2 h = some o) (K : jsm (fun s => (∀ lv : jL, lv 0 = some (jR (some this)) → lv 1 = some (jI x1) → lv 2 = some (jI s.1) → ey (mm_xt L xs) 2 91 49 lv [] s.2 r)) (fun x => (∀ lv : jL, ey (mm_xt L xs) 2 91 94 lv [] x r)) o) : ∀ lv : jL, lv 0 = some (jR (some this)) → lv 1 = some (jI x1) → lv 2 = some (jI x2) → ey (mm_xt L xs) 2 91 49 lv [] h r := by
  intro lv f0 f1 f2
  unfold jd_91_s49 at e
  refine ey_iload_n (cd_91 rfl) f2 ?_
  refine ey_bipush (cd_91 rfl) (by decide) ?_
  by_cases q24 : 16 ≤ (jw x2)
  · rw [if_pos q24] at e
    refine ey_cge (cd_91 rfl) rfl rfl (show jw 16 = 16 from by decide) q24 ?_
    cases e
    exact K lv 
  · rw [if_neg q24] at e
    refine ey_nge (cd_91 rfl) rfl rfl (show jw 16 = 16 from by decide) q24 ?_
    refine ey_iload_n (cd_91 rfl) f1 ?_
    refine ey_iload_n (cd_91 rfl) f2 ?_
    refine ey_cs (s0 := [jI x2, jI x1]) (s1 := []) (st' := [jI (jd_86 x1 x2)]) (cd_91 rfl) mt_91 mt_86 rfl (by decide) rfl rfl (jsml_s rfl) rfl (mm_Runs.up (d := 1) (by decide) (ok_86 )) ?_
    refine ey_istore_n (cd_91 rfl) mt_91 rfl ?_
    refine ey_aload_n (cd_91 rfl) f0 ?_
    obtain ⟨r25, e26, e⟩ := jbind e
    refine ey_getf_r (cd_91 rfl) mt_91 rfl rfl rfl e26 ?_
    refine ey_iload_n (cd_91 rfl) rfl ?_
    refine ey_aload_n (cd_91 rfl) f0 ?_
    obtain ⟨r27, e28, e⟩ := jbind e
    refine ey_getf_r (cd_91 rfl) mt_91 rfl rfl rfl e28 ?_
    refine ey_iload_n (cd_91 rfl) rfl ?_
    obtain ⟨a29, e30, e⟩ := jbind e
    refine ey_rs (s0 := [jI (jd_86 x1 x2), jR r27, jI (jd_86 x1 x2), jR r25]) (s1 := [jI (jd_86 x1 x2), jR (some a29), jI (jd_86 x1 x2), jR r25]) (by rw [e30]) ?_
    obtain ⟨v31, e32, e⟩ := jbind e
    refine ey_iald (cd_91 rfl) e32 ?_
    refine ey_aload_n (cd_91 rfl) f0 ?_
    obtain ⟨r33, e34, e⟩ := jbind e
    refine ey_getf_r (cd_91 rfl) mt_91 rfl rfl rfl e34 ?_
    refine ey_iload_n (cd_91 rfl) (jup_pi (lv := lv) (j := 2) (v := jI (jd_86 x1 x2)) (z := x2) f2) ?_
    obtain ⟨a35, e36, e⟩ := jbind e
    refine ey_rs (s0 := [jI x2, jR r33, jI v31, jI (jd_86 x1 x2), jR r25]) (s1 := [jI x2, jR (some a35), jI v31, jI (jd_86 x1 x2), jR r25]) (by rw [e36]) ?_
    obtain ⟨v37, e38, e⟩ := jbind e
    refine ey_iald (cd_91 rfl) e38 ?_
    refine ey_bipush (cd_91 rfl) (by decide) ?_
    refine ey_iadd (cd_91 rfl) ?_
    refine ey_iconst (cd_91 rfl) ?_
    refine ey_ishr (cd_91 rfl) ?_
    refine ey_iadd (cd_91 rfl) ?_
    refine ey_cs (s0 := [jI (v31 + (jshr (v37 + 8) 4)), jI (jd_86 x1 x2), jR r25]) (s1 := [jI (jd_86 x1 x2), jR r25]) (st' := [jI (jd_183 (v31 + (jshr (v37 + 8) 4))), jI (jd_86 x1 x2), jR r25]) (cd_91 rfl) mt_91 mt_183 rfl (by decide) rfl rfl (jsml_s rfl) rfl (mm_Runs.up (d := 1) (by decide) (ok_183 )) ?_
    obtain ⟨a39, e40, e⟩ := jbind e
    refine ey_rs (s0 := [jI (jd_183 (v31 + (jshr (v37 + 8) 4))), jI (jd_86 x1 x2), jR r25]) (s1 := [jI (jd_183 (v31 + (jshr (v37 + 8) 4))), jI (jd_86 x1 x2), jR (some a39)]) (by rw [e40]) ?_
    obtain ⟨h41, e42, e⟩ := jbind e
    refine ey_iast (cd_91 rfl) e42 ?_
    refine ey_iinc (cd_91 rfl) mt_91 rfl (jup_pi (lv := lv) (j := 2) (v := jI (jd_86 x1 x2)) (z := x2) f2) ?_
    refine ey_goto (cd_91 rfl) rfl ?_
    cases e
    exact K (jup (jup lv 3 (jI (jd_86 x1 x2))) 2 (jI (x2 + 1))) f0 (jup_pi (lv := (jup lv 3 (jI (jd_86 x1 x2)))) (j := 1) (v := jI (x2 + 1)) (z := x1) f1) rfl
theorem jk_91_l49 {L : Nat} {xs : Nat → Int32} {this : Nat} {x1 : Int} {x2 : Int} {h : jH} {x : jH} {r : mm_R} (e : jd_91_l49 this x1 x2 h = some x) (K : (∀ lv : jL, ey (mm_xt L xs) 2 91 94 lv [] x r)) : ∀ lv : jL, lv 0 = some (jR (some this)) → lv 1 = some (jI x1) → lv 2 = some (jI x2) → ey (mm_xt L xs) 2 91 49 lv [] h r := by
  unfold jd_91_l49 at e
  exact jlp_ok2 (P := fun s => ∀ lv : jL, lv 0 = some (jR (some this)) → lv 1 = some (jI x1) → lv 2 = some (jI s.1) → ey (mm_xt L xs) 2 91 49 lv [] s.2 r) (Q := fun x => (∀ lv : jL, ey (mm_xt L xs) 2 91 94 lv [] x r)) (fun s q hq hk => jk_91_s49 hq hk) jfu _ x e K
set_option maxRecDepth 100000 in
theorem ok_91 {L : Nat} {xs : Nat → Int32} {this : Nat} {p0 : Int} {h : jH} {o : jH} (e : jd_91 this p0 h = some o) : mm_Runs (mm_xt L xs) 3 91 ([jR (some this), jI p0].map jcv) (jaH h) (.inl (none, jaH o)) := by
  refine ey_run0 _ mt_91 (jsl_s rfl) ?_
  unfold jd_91 at e
  refine ey_iconst (cd_91 rfl) ?_
  refine ey_istore_n (cd_91 rfl) mt_91 rfl ?_
  obtain ⟨x18, e19, e⟩ := jbind e
  refine jk_91_l2 e19 ?_ (jup (jlf (jla 0 [jR (some this), jI p0])) 2 (jI 0)) rfl (jup_pi (lv := (jlf (jla 0 [jR (some this), jI p0]))) (j := 1) (v := jI 0) (z := p0) rfl) rfl
  intro lv g0 g1
  refine ey_aload_n (cd_91 rfl) g0 ?_
  obtain ⟨r20, e21, e⟩ := jbind e
  refine ey_getf_r (cd_91 rfl) mt_91 rfl rfl rfl e21 ?_
  obtain ⟨h22, e23, e⟩ := jbind e
  refine ey_cs (s0 := [jR r20]) (s1 := []) (st' := []) (cd_91 rfl) mt_91 mt_87 rfl (by decide) rfl rfl (jsml_s rfl) rfl (ok_87 e23) ?_
  refine ey_iconst (cd_91 rfl) ?_
  refine ey_istore_n (cd_91 rfl) mt_91 rfl ?_
  obtain ⟨x43, e44, e⟩ := jbind e
  refine jk_91_l49 e44 ?_ (jup lv 2 (jI 0)) g0 (jup_pi (lv := lv) (j := 1) (v := jI 0) (z := p0) g1) rfl
  intro lv 
  cases e
  exact ey_retv (cd_91 rfl) mt_91 rfl
theorem cd_92 {pc : Nat} {i : Instr × Nat} (h : mm_lk mm_c92 pc = some i) : mm_cd 92 pc = some i := h
theorem mt_92 : mm_MT 92 = (5, 7, none, 2, 0, []) := rfl
set_option maxRecDepth 100000 in
theorem jk_92_s2 {L : Nat} {xs : Nat → Int32} {this : Nat} {x1 : Int} {x2 : Option Nat} {x3 : Int} {h : jH} {o : ((Int × jH) ⊕ jH)} {r : mm_R} (e : jd_92_s2 this x1 x2 x3 h = some o) (K : jsm (fun s => (∀ lv : jL, lv 0 = some (jR (some this)) → lv 1 = some (jI x1) → lv 2 = some (jR x2) → lv 3 = some (jI s.1) → ey (mm_xt L xs) 2 92 2 lv [] s.2 r)) (fun x => (∀ lv : jL, lv 0 = some (jR (some this)) → lv 1 = some (jI x1) → ey (mm_xt L xs) 2 92 39 lv [] x r)) o) : ∀ lv : jL, lv 0 = some (jR (some this)) → lv 1 = some (jI x1) → lv 2 = some (jR x2) → lv 3 = some (jI x3) → ey (mm_xt L xs) 2 92 2 lv [] h r := by
  intro lv f0 f1 f2 f3
  unfold jd_92_s2 at e
  refine ey_iload_n (cd_92 rfl) f3 ?_
  refine ey_bipush (cd_92 rfl) (by decide) ?_
  by_cases q1 : 16 ≤ (jw x3)
  · rw [if_pos q1] at e
    refine ey_cge (cd_92 rfl) rfl rfl (show jw 16 = 16 from by decide) q1 ?_
    cases e
    exact K lv f0 f1
  · rw [if_neg q1] at e
    refine ey_nge (cd_92 rfl) rfl rfl (show jw 16 = 16 from by decide) q1 ?_
    refine ey_iload_n (cd_92 rfl) f1 ?_
    refine ey_iload_n (cd_92 rfl) f3 ?_
    refine ey_cs (s0 := [jI x3, jI x1]) (s1 := []) (st' := [jI (jd_86 x1 x3)]) (cd_92 rfl) mt_92 mt_86 rfl (by decide) rfl rfl (jsml_s rfl) rfl (mm_Runs.up (d := 1) (by decide) (ok_86 )) ?_
    refine ey_istore (cd_92 rfl) mt_92 rfl ?_
    refine ey_aload_n (cd_92 rfl) f0 ?_
    obtain ⟨r2, e3, e⟩ := jbind e
    refine ey_getf_r (cd_92 rfl) mt_92 rfl rfl rfl e3 ?_
    refine ey_iload_n (cd_92 rfl) (jup_pi (lv := lv) (j := 3) (v := jI (jd_86 x1 x3)) (z := x3) f3) ?_
    refine ey_aload_n (cd_92 rfl) f2 ?_
    refine ey_iload (cd_92 rfl) rfl ?_
    obtain ⟨a4, e5, e⟩ := jbind e
    refine ey_rs (s0 := [jI (jd_86 x1 x3), jR x2, jI x3, jR r2]) (s1 := [jI (jd_86 x1 x3), jR (some a4), jI x3, jR r2]) (by rw [e5]) ?_
    obtain ⟨v6, e7, e⟩ := jbind e
    refine ey_iald (cd_92 rfl) e7 ?_
    refine ey_aload_n (cd_92 rfl) f0 ?_
    obtain ⟨r8, e9, e⟩ := jbind e
    refine ey_getf_r (cd_92 rfl) mt_92 rfl rfl rfl e9 ?_
    refine ey_iload (cd_92 rfl) rfl ?_
    obtain ⟨a10, e11, e⟩ := jbind e
    refine ey_rs (s0 := [jI (jd_86 x1 x3), jR r8, jI v6, jI x3, jR r2]) (s1 := [jI (jd_86 x1 x3), jR (some a10), jI v6, jI x3, jR r2]) (by rw [e11]) ?_
    obtain ⟨v12, e13, e⟩ := jbind e
    refine ey_iald (cd_92 rfl) e13 ?_
    refine ey_isub (cd_92 rfl) ?_
    obtain ⟨a14, e15, e⟩ := jbind e
    refine ey_rs (s0 := [jI (v6 - v12), jI x3, jR r2]) (s1 := [jI (v6 - v12), jI x3, jR (some a14)]) (by rw [e15]) ?_
    obtain ⟨h16, e17, e⟩ := jbind e
    refine ey_iast (cd_92 rfl) e17 ?_
    refine ey_iinc (cd_92 rfl) mt_92 rfl (jup_pi (lv := lv) (j := 3) (v := jI (jd_86 x1 x3)) (z := x3) f3) ?_
    refine ey_goto (cd_92 rfl) rfl ?_
    cases e
    exact K (jup (jup lv 4 (jI (jd_86 x1 x3))) 3 (jI (x3 + 1))) f0 f1 (jup_pr (lv := (jup lv 4 (jI (jd_86 x1 x3)))) (j := 2) (v := jI (x3 + 1)) (z := x2) f2) rfl
theorem jk_92_l2 {L : Nat} {xs : Nat → Int32} {this : Nat} {x1 : Int} {x2 : Option Nat} {x3 : Int} {h : jH} {x : jH} {r : mm_R} (e : jd_92_l2 this x1 x2 x3 h = some x) (K : (∀ lv : jL, lv 0 = some (jR (some this)) → lv 1 = some (jI x1) → ey (mm_xt L xs) 2 92 39 lv [] x r)) : ∀ lv : jL, lv 0 = some (jR (some this)) → lv 1 = some (jI x1) → lv 2 = some (jR x2) → lv 3 = some (jI x3) → ey (mm_xt L xs) 2 92 2 lv [] h r := by
  unfold jd_92_l2 at e
  exact jlp_ok2 (P := fun s => ∀ lv : jL, lv 0 = some (jR (some this)) → lv 1 = some (jI x1) → lv 2 = some (jR x2) → lv 3 = some (jI s.1) → ey (mm_xt L xs) 2 92 2 lv [] s.2 r) (Q := fun x => (∀ lv : jL, lv 0 = some (jR (some this)) → lv 1 = some (jI x1) → ey (mm_xt L xs) 2 92 39 lv [] x r)) (fun s q hq hk => jk_92_s2 hq hk) jfu _ x e K
set_option maxRecDepth 100000 in
theorem jk_92_s58 {L : Nat} {xs : Nat → Int32} {this : Nat} {x1 : Int} {x3 : Int} {x4 : Int} {h : jH} {o : ((Int × jH) ⊕ jH)} {r : mm_R} (e : jd_92_s58 this x1 x3 x4 h = some o) (K : jsm (fun s => (∀ lv : jL, lv 0 = some (jR (some this)) → lv 1 = some (jI x1) → lv 3 = some (jI x3) → lv 4 = some (jI s.1) → ey (mm_xt L xs) 2 92 58 lv [] s.2 r)) (fun x => (∀ lv : jL, ey (mm_xt L xs) 2 92 131 lv [] x r)) o) : ∀ lv : jL, lv 0 = some (jR (some this)) → lv 1 = some (jI x1) → lv 3 = some (jI x3) → lv 4 = some (jI x4) → ey (mm_xt L xs) 2 92 58 lv [] h r := by
  intro lv f0 f1 f3 f4
  unfold jd_92_s58 at e
  refine ey_iload (cd_92 rfl) f4 ?_
  refine ey_bipush (cd_92 rfl) (by decide) ?_
  by_cases q28 : 16 ≤ (jw x4)
  · rw [if_pos q28] at e
    refine ey_cge (cd_92 rfl) rfl rfl (show jw 16 = 16 from by decide) q28 ?_
    cases e
    exact K lv 
  · rw [if_neg q28] at e
    refine ey_nge (cd_92 rfl) rfl rfl (show jw 16 = 16 from by decide) q28 ?_
    refine ey_aload_n (cd_92 rfl) f0 ?_
    obtain ⟨r29, e30, e⟩ := jbind e
    refine ey_getf_r (cd_92 rfl) mt_92 rfl rfl rfl e30 ?_
    refine ey_gs (cd_92 rfl) mt_92 rfl rfl ?_
    refine ey_iload (cd_92 rfl) f4 ?_
    obtain ⟨v31, e32, e⟩ := jbind e
    refine ey_iast_x (cd_92 rfl) (by decide) e32 ?_
    obtain ⟨a33, e34, e⟩ := jbind e
    refine ey_rs (s0 := [jI v31, jR r29]) (s1 := [jI v31, jR (some a33)]) (by rw [e34]) ?_
    obtain ⟨v35, e36, e⟩ := jbind e
    refine ey_iald (cd_92 rfl) e36 ?_
    refine ey_istore (cd_92 rfl) mt_92 rfl ?_
    refine ey_sipush (cd_92 rfl) (by decide) ?_
    refine ey_iload (cd_92 rfl) rfl ?_
    refine ey_abs (cd_92 rfl) mt_92 rfl (jsml_s rfl) ?_
    refine ey_aload_n (cd_92 rfl) f0 ?_
    obtain ⟨v37, e38, e⟩ := jbind e
    refine ey_getf_i (cd_92 rfl) mt_92 rfl rfl rfl e38 ?_
    refine ey_iconst (cd_92 rfl) ?_
    refine ey_idiv (cd_92 rfl) (by decide) ?_
    refine ey_iadd (cd_92 rfl) ?_
    refine ey_iload_n (cd_92 rfl) f3 ?_
    obtain ⟨u39, e40, e⟩ := jbind e
    refine ey_idiv (cd_92 rfl) (jnz_s e40) ?_
    refine ey_min (cd_92 rfl) mt_92 rfl (jsml_s rfl) ?_
    obtain ⟨z41, e42, e⟩ := jbind e
    refine ey_rs (s0 := [jI (if jw (jdiv ((if 0 ≤ jw v35 then v35 else -v35) + (jdiv v37 2)) x3) < jw 4095 then (jdiv ((if 0 ≤ jw v35 then v35 else -v35) + (jdiv v37 2)) x3) else 4095)]) (s1 := [jI z41]) (by rw [show (if jw (jdiv ((if 0 ≤ jw v35 then v35 else -v35) + (jdiv v37 2)) x3) < jw 4095 then (jdiv ((if 0 ≤ jw v35 then v35 else -v35) + (jdiv v37 2)) x3) else 4095) = z41 from Option.some.inj e42]) ?_
    refine ey_istore (cd_92 rfl) mt_92 rfl ?_
    refine ey_aload_n (cd_92 rfl) f0 ?_
    obtain ⟨r43, e44, e⟩ := jbind e
    refine ey_getf_r (cd_92 rfl) mt_92 rfl rfl rfl e44 ?_
    refine ey_bipush (cd_92 rfl) (by decide) ?_
    refine ey_iload_n (cd_92 rfl) f1 ?_
    refine ey_imul (cd_92 rfl) ?_
    refine ey_iload (cd_92 rfl) (jup_o rfl (jup_pi (lv := lv) (j := 4) (v := jI v35) (z := x4) f4)) ?_
    refine ey_iadd (cd_92 rfl) ?_
    refine ey_iload (cd_92 rfl) (jup_pi (lv := (jup lv 5 (jI v35))) (j := 5) (v := jI z41) (z := v35) rfl) ?_
    have K49 : ∀ lv : jL, lv 0 = some (jR (some this)) → lv 1 = some (jI x1) → lv 3 = some (jI x3) → lv 4 = some (jI x4) → ey (mm_xt L xs) 2 92 124 lv [jI (if 0 ≤ (jw v35) then z41 else (-z41)), jI ((16 * x1) + x4), jR r43] h r := by
      intro lv g0 g1 g3 g4
      obtain ⟨a45, e46, e⟩ := jbind e
      refine ey_rs (s0 := [jI (if 0 ≤ (jw v35) then z41 else (-z41)), jI ((16 * x1) + x4), jR r43]) (s1 := [jI (if 0 ≤ (jw v35) then z41 else (-z41)), jI ((16 * x1) + x4), jR (some a45)]) (by rw [e46]) ?_
      obtain ⟨h47, e48, e⟩ := jbind e
      refine ey_iast (cd_92 rfl) e48 ?_
      refine ey_iinc (cd_92 rfl) mt_92 rfl g4 ?_
      refine ey_goto (cd_92 rfl) rfl ?_
      cases e
      exact K (jup lv 4 (jI (x4 + 1))) g0 g1 (jup_pi (lv := lv) (j := 3) (v := jI (x4 + 1)) (z := x3) g3) rfl
    by_cases q50 : 0 ≤ (jw v35)
    · refine ey_zge (cd_92 rfl) rfl rfl q50 ?_
      refine ey_iload (cd_92 rfl) rfl ?_
      exact ey_rs (s0 := [jI z41, jI ((16 * x1) + x4), jR r43]) (s1 := [jI (if 0 ≤ (jw v35) then z41 else (-z41)), jI ((16 * x1) + x4), jR r43]) (by rw [show ((if 0 ≤ (jw v35) then z41 else (-z41)) : Int) = z41 from (if_pos q50)]) (K49 (jup (jup lv 5 (jI v35)) 6 (jI z41)) f0 f1 f3 (jup_o rfl (jup_pi (lv := lv) (j := 4) (v := jI v35) (z := x4) f4)))
    · refine ey_yge (cd_92 rfl) rfl rfl q50 ?_
      refine ey_iload (cd_92 rfl) rfl ?_
      refine ey_ineg (cd_92 rfl) ?_
      refine ey_goto (cd_92 rfl) rfl ?_
      exact ey_rs (s0 := [jI (-z41), jI ((16 * x1) + x4), jR r43]) (s1 := [jI (if 0 ≤ (jw v35) then z41 else (-z41)), jI ((16 * x1) + x4), jR r43]) (by rw [show ((if 0 ≤ (jw v35) then z41 else (-z41)) : Int) = (-z41) from (if_neg q50)]) (K49 (jup (jup lv 5 (jI v35)) 6 (jI z41)) f0 f1 f3 (jup_o rfl (jup_pi (lv := lv) (j := 4) (v := jI v35) (z := x4) f4)))
theorem jk_92_l58 {L : Nat} {xs : Nat → Int32} {this : Nat} {x1 : Int} {x3 : Int} {x4 : Int} {h : jH} {x : jH} {r : mm_R} (e : jd_92_l58 this x1 x3 x4 h = some x) (K : (∀ lv : jL, ey (mm_xt L xs) 2 92 131 lv [] x r)) : ∀ lv : jL, lv 0 = some (jR (some this)) → lv 1 = some (jI x1) → lv 3 = some (jI x3) → lv 4 = some (jI x4) → ey (mm_xt L xs) 2 92 58 lv [] h r := by
  unfold jd_92_l58 at e
  exact jlp_ok2 (P := fun s => ∀ lv : jL, lv 0 = some (jR (some this)) → lv 1 = some (jI x1) → lv 3 = some (jI x3) → lv 4 = some (jI s.1) → ey (mm_xt L xs) 2 92 58 lv [] s.2 r) (Q := fun x => (∀ lv : jL, ey (mm_xt L xs) 2 92 131 lv [] x r)) (fun s q hq hk => jk_92_s58 hq hk) jfu _ x e K
set_option maxRecDepth 100000 in
theorem ok_92 {L : Nat} {xs : Nat → Int32} {this : Nat} {p0 : Int} {p1 : Option Nat} {h : jH} {o : jH} (e : jd_92 this p0 p1 h = some o) : mm_Runs (mm_xt L xs) 3 92 ([jR (some this), jI p0, jR p1].map jcv) (jaH h) (.inl (none, jaH o)) := by
  refine ey_run0 _ mt_92 (jsl_s rfl) ?_
  unfold jd_92 at e
  refine ey_iconst (cd_92 rfl) ?_
  refine ey_istore_n (cd_92 rfl) mt_92 rfl ?_
  obtain ⟨x18, e19, e⟩ := jbind e
  refine jk_92_l2 e19 ?_ (jup (jlf (jla 0 [jR (some this), jI p0, jR p1])) 3 (jI 0)) rfl rfl (jup_pr (lv := (jlf (jla 0 [jR (some this), jI p0, jR p1]))) (j := 2) (v := jI 0) (z := p1) rfl) rfl
  intro lv g0 g1
  refine ey_aload_n (cd_92 rfl) g0 ?_
  obtain ⟨r20, e21, e⟩ := jbind e
  refine ey_getf_r (cd_92 rfl) mt_92 rfl rfl rfl e21 ?_
  obtain ⟨h22, e23, e⟩ := jbind e
  refine ey_cs (s0 := [jR r20]) (s1 := []) (st' := []) (cd_92 rfl) mt_92 mt_87 rfl (by decide) rfl rfl (jsml_s rfl) rfl (ok_87 e23) ?_
  refine ey_aload_n (cd_92 rfl) g0 ?_
  obtain ⟨v24, e25, e⟩ := jbind e
  refine ey_getf_i (cd_92 rfl) mt_92 rfl rfl rfl e25 ?_
  refine ey_iconst (cd_92 rfl) ?_
  refine ey_max (cd_92 rfl) mt_92 rfl (jsml_s rfl) ?_
  obtain ⟨z26, e27, e⟩ := jbind e
  refine ey_rs (s0 := [jI (if jw v24 < jw 1 then 1 else v24)]) (s1 := [jI z26]) (by rw [show (if jw v24 < jw 1 then 1 else v24) = z26 from Option.some.inj e27]) ?_
  refine ey_istore_n (cd_92 rfl) mt_92 rfl ?_
  refine ey_iconst (cd_92 rfl) ?_
  refine ey_istore (cd_92 rfl) mt_92 rfl ?_
  obtain ⟨x51, e52, e⟩ := jbind e
  refine jk_92_l58 e52 ?_ (jup (jup lv 3 (jI z26)) 4 (jI 0)) g0 g1 (jup_pi (lv := (jup lv 3 (jI z26))) (j := 3) (v := jI 0) (z := z26) rfl) rfl
  intro lv 
  cases e
  exact ey_retv (cd_92 rfl) mt_92 rfl
theorem cd_18 {pc : Nat} {i : Instr × Nat} (h : mm_lk mm_c18 pc = some i) : mm_cd 18 pc = some i := h
theorem mt_18 : mm_MT 18 = (1, 6, none, 1, 0, []) := rfl
set_option maxRecDepth 100000 in
theorem jk_18_b79 {L : Nat} {xs : Nat → Int32} {this : Nat} {x1 : Int} {x2 : Int} {x3 : Int} {h : jH} {o : ((Int × jH) ⊕ jH)} {r : mm_R} (e : jd_18_b79 this x1 x2 x3 h = some o) (K : jsm (fun s => (∀ lv : jL, lv 0 = some (jR (some this)) → lv 1 = some (jI x1) → lv 2 = some (jI x2) → lv 3 = some (jI s.1) → ey (mm_xt L xs) 3 18 38 lv [] s.2 r)) (fun x => (∀ lv : jL, lv 0 = some (jR (some this)) → lv 1 = some (jI x1) → ey (mm_xt L xs) 3 18 85 lv [] x r)) o) : ∀ lv : jL, lv 0 = some (jR (some this)) → lv 1 = some (jI x1) → lv 2 = some (jI x2) → lv 3 = some (jI x3) → ey (mm_xt L xs) 3 18 79 lv [] h r := by
  intro lv f0 f1 f2 f3
  unfold jd_18_b79 at e
  refine ey_iinc (cd_18 rfl) mt_18 rfl f3 ?_
  refine ey_goto (cd_18 rfl) rfl ?_
  cases e
  exact K (jup lv 3 (jI (x3 + 1))) f0 f1 (jup_pi (lv := lv) (j := 2) (v := jI (x3 + 1)) (z := x2) f2) rfl
set_option maxRecDepth 100000 in
theorem jk_18_s38 {L : Nat} {xs : Nat → Int32} {this : Nat} {x1 : Int} {x2 : Int} {x3 : Int} {h : jH} {o : ((Int × jH) ⊕ jH)} {r : mm_R} (e : jd_18_s38 this x1 x2 x3 h = some o) (K : jsm (fun s => (∀ lv : jL, lv 0 = some (jR (some this)) → lv 1 = some (jI x1) → lv 2 = some (jI x2) → lv 3 = some (jI s.1) → ey (mm_xt L xs) 3 18 38 lv [] s.2 r)) (fun x => (∀ lv : jL, lv 0 = some (jR (some this)) → lv 1 = some (jI x1) → ey (mm_xt L xs) 3 18 85 lv [] x r)) o) : ∀ lv : jL, lv 0 = some (jR (some this)) → lv 1 = some (jI x1) → lv 2 = some (jI x2) → lv 3 = some (jI x3) → ey (mm_xt L xs) 3 18 38 lv [] h r := by
  intro lv f0 f1 f2 f3
  unfold jd_18_s38 at e
  refine ey_iload_n (cd_18 rfl) f3 ?_
  refine ey_bipush (cd_18 rfl) (by decide) ?_
  by_cases q35 : 6 ≤ (jw x3)
  · rw [if_pos q35] at e
    refine ey_cge (cd_18 rfl) rfl rfl (show jw 6 = 6 from by decide) q35 ?_
    cases e
    exact K lv f0 f1
  · rw [if_neg q35] at e
    refine ey_nge (cd_18 rfl) rfl rfl (show jw 6 = 6 from by decide) q35 ?_
    refine ey_iload_n (cd_18 rfl) f2 ?_
    by_cases q36 : (jw x2) = 0
    · rw [if_pos q36] at e
      refine ey_zeq (cd_18 rfl) rfl rfl q36 ?_
      cases e
      exact K lv f0 f1
    · rw [if_neg q36] at e
      refine ey_yeq (cd_18 rfl) rfl rfl q36 ?_
      refine ey_aload_n (cd_18 rfl) f0 ?_
      obtain ⟨r37, e38, e⟩ := jbind e
      refine ey_getf_r (cd_18 rfl) mt_18 rfl rfl rfl e38 ?_
      refine ey_iload_n (cd_18 rfl) f3 ?_
      refine ey_aload_n (cd_18 rfl) f0 ?_
      obtain ⟨r39, e40, e⟩ := jbind e
      refine ey_getf_r (cd_18 rfl) mt_18 rfl rfl rfl e40 ?_
      obtain ⟨a41, e42, e⟩ := jbind e
      refine ey_rs (s0 := [jR r39, jI x3, jR r37]) (s1 := [jR r39, jI x3, jR (some a41)]) (by rw [e42]) ?_
      obtain ⟨u43, e44, e⟩ := jbind e
      obtain ⟨h45, e46, e⟩ := jbind e
      refine ey_cv (s0 := [jR r39, jI x3, jR (some a41)]) (s1 := []) (st' := []) (cd_18 rfl) mt_18 mt_92 rfl rfl rfl (jck_s e44) rfl (jsml_s rfl) rfl (ok_92 e46) ?_
      refine ey_aload_n (cd_18 rfl) f0 ?_
      obtain ⟨r47, e48, e⟩ := jbind e
      refine ey_getf_r (cd_18 rfl) mt_18 rfl rfl rfl e48 ?_
      refine ey_iload_n (cd_18 rfl) f3 ?_
      obtain ⟨a49, e50, e⟩ := jbind e
      refine ey_rs (s0 := [jI x3, jR r47]) (s1 := [jI x3, jR (some a49)]) (by rw [e50]) ?_
      obtain ⟨u51, e52, e⟩ := jbind e
      obtain ⟨v53, e54, e⟩ := jbind e
      refine ey_cv (s0 := [jI x3, jR (some a49)]) (s1 := []) (st' := [jI v53]) (cd_18 rfl) mt_18 mt_89 rfl rfl rfl (jck_s e52) rfl (jsml_s rfl) rfl (mm_Runs.up (d := 1) (by decide) (ok_89 e54)) ?_
      by_cases q55 : (jw v53) ≤ 0
      · rw [if_pos q55] at e
        refine ey_zle (cd_18 rfl) rfl rfl q55 ?_
        exact jk_18_b79 e K lv f0 f1 f2 f3
      · rw [if_neg q55] at e
        refine ey_yle (cd_18 rfl) rfl rfl q55 ?_
        refine ey_aload_n (cd_18 rfl) f0 ?_
        obtain ⟨r56, e57, e⟩ := jbind e
        refine ey_getf_r (cd_18 rfl) mt_18 rfl rfl rfl e57 ?_
        refine ey_iload_n (cd_18 rfl) f3 ?_
        obtain ⟨a58, e59, e⟩ := jbind e
        refine ey_rs (s0 := [jI x3, jR r56]) (s1 := [jI x3, jR (some a58)]) (by rw [e59]) ?_
        obtain ⟨u60, e61, e⟩ := jbind e
        obtain ⟨h62, e63, e⟩ := jbind e
        refine ey_cv (s0 := [jI x3, jR (some a58)]) (s1 := []) (st' := []) (cd_18 rfl) mt_18 mt_91 rfl rfl rfl (jck_s e61) rfl (jsml_s rfl) rfl (ok_91 e63) ?_
        exact jk_18_b79 e K lv f0 f1 f2 f3
theorem jk_18_l38 {L : Nat} {xs : Nat → Int32} {this : Nat} {x1 : Int} {x2 : Int} {x3 : Int} {h : jH} {x : jH} {r : mm_R} (e : jd_18_l38 this x1 x2 x3 h = some x) (K : (∀ lv : jL, lv 0 = some (jR (some this)) → lv 1 = some (jI x1) → ey (mm_xt L xs) 3 18 85 lv [] x r)) : ∀ lv : jL, lv 0 = some (jR (some this)) → lv 1 = some (jI x1) → lv 2 = some (jI x2) → lv 3 = some (jI x3) → ey (mm_xt L xs) 3 18 38 lv [] h r := by
  unfold jd_18_l38 at e
  exact jlp_ok2 (P := fun s => ∀ lv : jL, lv 0 = some (jR (some this)) → lv 1 = some (jI x1) → lv 2 = some (jI x2) → lv 3 = some (jI s.1) → ey (mm_xt L xs) 3 18 38 lv [] s.2 r) (Q := fun x => (∀ lv : jL, lv 0 = some (jR (some this)) → lv 1 = some (jI x1) → ey (mm_xt L xs) 3 18 85 lv [] x r)) (fun s q hq hk => jk_18_s38 hq hk) jfu _ x e K
set_option maxRecDepth 100000 in
theorem jk_18_s128 {L : Nat} {xs : Nat → Int32} {this : Nat} {x1 : Int} {x3 : Int} {x4 : Int} {h : jH} {o : ((Int × Int) ⊕ Int)} {r : mm_R} (e : jd_18_s128 this x1 x3 x4 h = some o) (K : jsm (fun s => (∀ lv : jL, lv 0 = some (jR (some this)) → lv 1 = some (jI x1) → lv 3 = some (jI s.1) → lv 4 = some (jI s.2) → ey (mm_xt L xs) 3 18 128 lv [] h r)) (fun x => (∀ lv : jL, lv 0 = some (jR (some this)) → lv 1 = some (jI x1) → lv 3 = some (jI x) → ey (mm_xt L xs) 3 18 169 lv [] h r)) o) : ∀ lv : jL, lv 0 = some (jR (some this)) → lv 1 = some (jI x1) → lv 3 = some (jI x3) → lv 4 = some (jI x4) → ey (mm_xt L xs) 3 18 128 lv [] h r := by
  intro lv f0 f1 f3 f4
  unfold jd_18_s128 at e
  refine ey_iload (cd_18 rfl) f4 ?_
  refine ey_bipush (cd_18 rfl) (by decide) ?_
  by_cases q98 : 96 ≤ (jw x4)
  · rw [if_pos q98] at e
    refine ey_cge (cd_18 rfl) rfl rfl (show jw 96 = 96 from by decide) q98 ?_
    cases e
    exact K lv f0 f1 f3
  · rw [if_neg q98] at e
    refine ey_nge (cd_18 rfl) rfl rfl (show jw 96 = 96 from by decide) q98 ?_
    refine ey_aload_n (cd_18 rfl) f0 ?_
    obtain ⟨r99, e100, e⟩ := jbind e
    refine ey_getf_r (cd_18 rfl) mt_18 rfl rfl rfl e100 ?_
    refine ey_iload (cd_18 rfl) f4 ?_
    obtain ⟨a101, e102, e⟩ := jbind e
    refine ey_rs (s0 := [jI x4, jR r99]) (s1 := [jI x4, jR (some a101)]) (by rw [e102]) ?_
    obtain ⟨v103, e104, e⟩ := jbind e
    refine ey_iald (cd_18 rfl) e104 ?_
    refine ey_aload_n (cd_18 rfl) f0 ?_
    obtain ⟨r105, e106, e⟩ := jbind e
    refine ey_getf_r (cd_18 rfl) mt_18 rfl rfl rfl e106 ?_
    obtain ⟨a107, e108, e⟩ := jbind e
    refine ey_rs (s0 := [jR r105, jI v103]) (s1 := [jR (some a107), jI v103]) (by rw [e108]) ?_
    obtain ⟨r109, e110, e⟩ := jbind e
    refine ey_getf_r (cd_18 rfl) mt_18 rfl rfl rfl e110 ?_
    refine ey_iload (cd_18 rfl) f4 ?_
    obtain ⟨a111, e112, e⟩ := jbind e
    refine ey_rs (s0 := [jI x4, jR r109, jI v103]) (s1 := [jI x4, jR (some a111), jI v103]) (by rw [e112]) ?_
    obtain ⟨v113, e114, e⟩ := jbind e
    refine ey_iald (cd_18 rfl) e114 ?_
    refine ey_isub (cd_18 rfl) ?_
    refine ey_istore (cd_18 rfl) mt_18 rfl ?_
    refine ey_iload_n (cd_18 rfl) f3 ?_
    refine ey_iload (cd_18 rfl) rfl ?_
    refine ey_iload (cd_18 rfl) rfl ?_
    refine ey_imul (cd_18 rfl) ?_
    refine ey_iadd (cd_18 rfl) ?_
    obtain ⟨z115, e116, e⟩ := jbind e
    refine ey_rs (s0 := [jI (x3 + ((v103 - v113) * (v103 - v113)))]) (s1 := [jI z115]) (by rw [show (x3 + ((v103 - v113) * (v103 - v113))) = z115 from Option.some.inj e116]) ?_
    refine ey_istore_n (cd_18 rfl) mt_18 rfl ?_
    refine ey_iinc (cd_18 rfl) mt_18 rfl (jup_o rfl (jup_pi (lv := lv) (j := 4) (v := jI (v103 - v113)) (z := x4) f4)) ?_
    refine ey_goto (cd_18 rfl) rfl ?_
    cases e
    exact K (jup (jup (jup lv 5 (jI (v103 - v113))) 3 (jI z115)) 4 (jI (x4 + 1))) f0 f1 (jup_pi (lv := (jup (jup lv 5 (jI (v103 - v113))) 3 (jI z115))) (j := 3) (v := jI (x4 + 1)) (z := z115) rfl) rfl
theorem jk_18_l128 {L : Nat} {xs : Nat → Int32} {this : Nat} {x1 : Int} {x3 : Int} {x4 : Int} {h : jH} {x : Int} {r : mm_R} (e : jd_18_l128 this x1 x3 x4 h = some x) (K : (∀ lv : jL, lv 0 = some (jR (some this)) → lv 1 = some (jI x1) → lv 3 = some (jI x) → ey (mm_xt L xs) 3 18 169 lv [] h r)) : ∀ lv : jL, lv 0 = some (jR (some this)) → lv 1 = some (jI x1) → lv 3 = some (jI x3) → lv 4 = some (jI x4) → ey (mm_xt L xs) 3 18 128 lv [] h r := by
  unfold jd_18_l128 at e
  exact jlp_ok2 (P := fun s => ∀ lv : jL, lv 0 = some (jR (some this)) → lv 1 = some (jI x1) → lv 3 = some (jI s.1) → lv 4 = some (jI s.2) → ey (mm_xt L xs) 3 18 128 lv [] h r) (Q := fun x => (∀ lv : jL, lv 0 = some (jR (some this)) → lv 1 = some (jI x1) → lv 3 = some (jI x) → ey (mm_xt L xs) 3 18 169 lv [] h r)) (fun s q hq hk => jk_18_s128 hq hk) jfu _ x e K
set_option maxRecDepth 100000 in
theorem jk_18_b244 {L : Nat} {xs : Nat → Int32} {this : Nat}  {h : jH} {o : jH} (e : jd_18_b244 this  h = some o) : ∀ lv : jL, ey (mm_xt L xs) 3 18 244 lv [] h (.inl (none, jaH o)) := by
  intro lv 
  unfold jd_18_b244 at e
  cases e
  exact ey_retv (cd_18 rfl) mt_18 rfl
set_option maxRecDepth 100000 in
theorem jk_18_b181 {L : Nat} {xs : Nat → Int32} {this : Nat} {x1 : Int} {x3 : Int} {h : jH} {o : jH} (e : jd_18_b181 this x1 x3 h = some o) : ∀ lv : jL, lv 0 = some (jR (some this)) → lv 1 = some (jI x1) → lv 3 = some (jI x3) → ey (mm_xt L xs) 3 18 181 lv [] h (.inl (none, jaH o)) := by
  intro lv f0 f1 f3
  unfold jd_18_b181 at e
  refine ey_aload_n (cd_18 rfl) f0 ?_
  refine ey_iload_n (cd_18 rfl) f3 ?_
  obtain ⟨h120, e121, e⟩ := jbind e
  refine ey_putf_i (cd_18 rfl) mt_18 rfl rfl rfl e121 ?_
  refine ey_aload_n (cd_18 rfl) f0 ?_
  refine ey_iload_n (cd_18 rfl) f1 ?_
  obtain ⟨h122, e123, e⟩ := jbind e
  refine ey_putf_i (cd_18 rfl) mt_18 rfl rfl rfl e123 ?_
  refine ey_aload_n (cd_18 rfl) f0 ?_
  obtain ⟨r124, e125, e⟩ := jbind e
  refine ey_getf_r (cd_18 rfl) mt_18 rfl rfl rfl e125 ?_
  obtain ⟨a126, e127, e⟩ := jbind e
  refine ey_rs (s0 := [jR r124]) (s1 := [jR (some a126)]) (by rw [e127]) ?_
  obtain ⟨r128, e129, e⟩ := jbind e
  refine ey_getf_r (cd_18 rfl) mt_18 rfl rfl rfl e129 ?_
  refine ey_iconst (cd_18 rfl) ?_
  refine ey_aload_n (cd_18 rfl) f0 ?_
  obtain ⟨r130, e131, e⟩ := jbind e
  refine ey_getf_r (cd_18 rfl) mt_18 rfl rfl rfl e131 ?_
  refine ey_iconst (cd_18 rfl) ?_
  refine ey_bipush (cd_18 rfl) (by decide) ?_
  obtain ⟨a132, e133, e⟩ := jbind e
  refine ey_rs (s0 := [jI 96, jI 0, jR r130, jI 0, jR r128]) (s1 := [jI 96, jI 0, jR (some a132), jI 0, jR r128]) (by rw [e133]) ?_
  obtain ⟨a134, e135, e⟩ := jbind e
  refine ey_rs (s0 := [jI 96, jI 0, jR (some a132), jI 0, jR r128]) (s1 := [jI 96, jI 0, jR (some a132), jI 0, jR (some a134)]) (by rw [e135]) ?_
  obtain ⟨h136, e137, e⟩ := jbind e
  refine ey_cpy (cd_18 rfl) mt_18 rfl (jsml_s rfl) e137 ?_
  refine ey_aload_n (cd_18 rfl) f0 ?_
  obtain ⟨r138, e139, e⟩ := jbind e
  refine ey_getf_r (cd_18 rfl) mt_18 rfl rfl rfl e139 ?_
  obtain ⟨a140, e141, e⟩ := jbind e
  refine ey_rs (s0 := [jR r138]) (s1 := [jR (some a140)]) (by rw [e141]) ?_
  obtain ⟨r142, e143, e⟩ := jbind e
  refine ey_getf_r (cd_18 rfl) mt_18 rfl rfl rfl e143 ?_
  refine ey_iconst (cd_18 rfl) ?_
  refine ey_aload_n (cd_18 rfl) f0 ?_
  obtain ⟨r144, e145, e⟩ := jbind e
  refine ey_getf_r (cd_18 rfl) mt_18 rfl rfl rfl e145 ?_
  refine ey_iconst (cd_18 rfl) ?_
  refine ey_bipush (cd_18 rfl) (by decide) ?_
  obtain ⟨a146, e147, e⟩ := jbind e
  refine ey_rs (s0 := [jI 96, jI 0, jR r144, jI 0, jR r142]) (s1 := [jI 96, jI 0, jR (some a146), jI 0, jR r142]) (by rw [e147]) ?_
  obtain ⟨a148, e149, e⟩ := jbind e
  refine ey_rs (s0 := [jI 96, jI 0, jR (some a146), jI 0, jR r142]) (s1 := [jI 96, jI 0, jR (some a146), jI 0, jR (some a148)]) (by rw [e149]) ?_
  obtain ⟨h150, e151, e⟩ := jbind e
  refine ey_cpy (cd_18 rfl) mt_18 rfl (jsml_s rfl) e151 ?_
  refine ey_aload_n (cd_18 rfl) f0 ?_
  obtain ⟨r152, e153, e⟩ := jbind e
  refine ey_getf_r (cd_18 rfl) mt_18 rfl rfl rfl e153 ?_
  obtain ⟨a154, e155, e⟩ := jbind e
  refine ey_rs (s0 := [jR r152]) (s1 := [jR (some a154)]) (by rw [e155]) ?_
  obtain ⟨r156, e157, e⟩ := jbind e
  refine ey_getf_r (cd_18 rfl) mt_18 rfl rfl rfl e157 ?_
  refine ey_iconst (cd_18 rfl) ?_
  refine ey_aload_n (cd_18 rfl) f0 ?_
  obtain ⟨r158, e159, e⟩ := jbind e
  refine ey_getf_r (cd_18 rfl) mt_18 rfl rfl rfl e159 ?_
  refine ey_iconst (cd_18 rfl) ?_
  refine ey_iconst (cd_18 rfl) ?_
  obtain ⟨a160, e161, e⟩ := jbind e
  refine ey_rs (s0 := [jI 4, jI 0, jR r158, jI 0, jR r156]) (s1 := [jI 4, jI 0, jR (some a160), jI 0, jR r156]) (by rw [e161]) ?_
  obtain ⟨a162, e163, e⟩ := jbind e
  refine ey_rs (s0 := [jI 4, jI 0, jR (some a160), jI 0, jR r156]) (s1 := [jI 4, jI 0, jR (some a160), jI 0, jR (some a162)]) (by rw [e163]) ?_
  obtain ⟨h164, e165, e⟩ := jbind e
  refine ey_cpy (cd_18 rfl) mt_18 rfl (jsml_s rfl) e165 ?_
  exact jk_18_b244 e lv 
set_option maxRecDepth 100000 in
theorem ok_18 {L : Nat} {xs : Nat → Int32} {this : Nat} {p0 : Int} {h : jH} {o : jH} (e : jd_18 this p0 h = some o) : mm_Runs (mm_xt L xs) 4 18 ([jR (some this), jI p0].map jcv) (jaH h) (.inl (none, jaH o)) := by
  refine ey_run0 _ mt_18 (jsl_s rfl) ?_
  unfold jd_18 at e
  refine ey_aload_n (cd_18 rfl) rfl ?_
  obtain ⟨r1, e2, e⟩ := jbind e
  refine ey_getf_r (cd_18 rfl) mt_18 rfl rfl rfl e2 ?_
  refine ey_iload_n (cd_18 rfl) rfl ?_
  obtain ⟨a3, e4, e⟩ := jbind e
  refine ey_rs (s0 := [jI p0, jR r1]) (s1 := [jI p0, jR (some a3)]) (by rw [e4]) ?_
  obtain ⟨u5, e6, e⟩ := jbind e
  obtain ⟨v7, e8, e⟩ := jbind e
  refine ey_cv (s0 := [jI p0, jR (some a3)]) (s1 := []) (st' := [jI v7]) (cd_18 rfl) mt_18 mt_76 rfl rfl rfl (jck_s e6) rfl (jsml_s rfl) rfl (mm_Runs.up (d := 1) (by decide) (ok_76 e8)) ?_
  refine ey_istore_n (cd_18 rfl) mt_18 rfl ?_
  refine ey_aload_n (cd_18 rfl) rfl ?_
  obtain ⟨r9, e10, e⟩ := jbind e
  refine ey_getf_r (cd_18 rfl) mt_18 rfl rfl rfl e10 ?_
  refine ey_iload_n (cd_18 rfl) rfl ?_
  refine ey_aload_n (cd_18 rfl) rfl ?_
  obtain ⟨r11, e12, e⟩ := jbind e
  refine ey_getf_r (cd_18 rfl) mt_18 rfl rfl rfl e12 ?_
  obtain ⟨a13, e14, e⟩ := jbind e
  refine ey_rs (s0 := [jR r11, jI v7, jR r9]) (s1 := [jR r11, jI v7, jR (some a13)]) (by rw [e14]) ?_
  obtain ⟨u15, e16, e⟩ := jbind e
  obtain ⟨h17, e18, e⟩ := jbind e
  refine ey_cv (s0 := [jR r11, jI v7, jR (some a13)]) (s1 := []) (st' := []) (cd_18 rfl) mt_18 mt_78 rfl rfl rfl (jck_s e16) rfl (jsml_s rfl) rfl (mm_Runs.up (d := 2) (by decide) (ok_78 e18)) ?_
  refine ey_aload_n (cd_18 rfl) rfl ?_
  obtain ⟨r19, e20, e⟩ := jbind e
  refine ey_getf_r (cd_18 rfl) mt_18 rfl rfl rfl e20 ?_
  refine ey_iload_n (cd_18 rfl) rfl ?_
  obtain ⟨a21, e22, e⟩ := jbind e
  refine ey_rs (s0 := [jI v7, jR r19]) (s1 := [jI v7, jR (some a21)]) (by rw [e22]) ?_
  obtain ⟨u23, e24, e⟩ := jbind e
  obtain ⟨h25, e26, e⟩ := jbind e
  refine ey_cv (s0 := [jI v7, jR (some a21)]) (s1 := []) (st' := []) (cd_18 rfl) mt_18 mt_79 rfl rfl rfl (jck_s e24) rfl (jsml_s rfl) rfl (ok_79 e26) ?_
  refine ey_aload_n (cd_18 rfl) rfl ?_
  obtain ⟨r27, e28, e⟩ := jbind e
  refine ey_getf_r (cd_18 rfl) mt_18 rfl rfl rfl e28 ?_
  obtain ⟨a29, e30, e⟩ := jbind e
  refine ey_rs (s0 := [jR r27]) (s1 := [jR (some a29)]) (by rw [e30]) ?_
  obtain ⟨u31, e32, e⟩ := jbind e
  obtain ⟨h33, e34, e⟩ := jbind e
  refine ey_cv (s0 := [jR (some a29)]) (s1 := []) (st' := []) (cd_18 rfl) mt_18 mt_90 rfl rfl rfl (jck_s e32) rfl (jsml_s rfl) rfl (mm_Runs.up (d := 1) (by decide) (ok_90 e34)) ?_
  refine ey_iconst (cd_18 rfl) ?_
  refine ey_istore_n (cd_18 rfl) mt_18 rfl ?_
  obtain ⟨x64, e65, e⟩ := jbind e
  refine jk_18_l38 e65 ?_ (jup (jup (jlf (jla 0 [jR (some this), jI p0])) 2 (jI v7)) 3 (jI 0)) rfl (jup_o rfl (jup_pi (lv := (jlf (jla 0 [jR (some this), jI p0]))) (j := 1) (v := jI v7) (z := p0) rfl)) (jup_pi (lv := (jup (jlf (jla 0 [jR (some this), jI p0])) 2 (jI v7))) (j := 2) (v := jI 0) (z := v7) rfl) rfl
  intro lv g0 g1
  refine ey_aload_n (cd_18 rfl) g0 ?_
  obtain ⟨r66, e67, e⟩ := jbind e
  refine ey_getf_r (cd_18 rfl) mt_18 rfl rfl rfl e67 ?_
  obtain ⟨a68, e69, e⟩ := jbind e
  refine ey_rs (s0 := [jR r66]) (s1 := [jR (some a68)]) (by rw [e69]) ?_
  obtain ⟨u70, e71, e⟩ := jbind e
  obtain ⟨h72, e73, e⟩ := jbind e
  refine ey_cv (s0 := [jR (some a68)]) (s1 := []) (st' := []) (cd_18 rfl) mt_18 mt_7 rfl rfl rfl (jck_s e71) rfl (jsml_s rfl) rfl (mm_Runs.up (d := 1) (by decide) (ok_7 e73)) ?_
  refine ey_aload_n (cd_18 rfl) g0 ?_
  refine ey_aload_n (cd_18 rfl) g0 ?_
  obtain ⟨r74, e75, e⟩ := jbind e
  refine ey_getf_r (cd_18 rfl) mt_18 rfl rfl rfl e75 ?_
  refine ey_iload_n (cd_18 rfl) g1 ?_
  obtain ⟨u76, e77, e⟩ := jbind e
  obtain ⟨h78, e79, e⟩ := jbind e
  refine ey_cv (s0 := [jI p0, jR r74, jR (some this)]) (s1 := []) (st' := []) (cd_18 rfl) mt_18 mt_20 rfl rfl rfl (jck_s e77) rfl (jsml_s rfl) rfl (ok_20 e79) ?_
  refine ey_aload_n (cd_18 rfl) g0 ?_
  obtain ⟨r80, e81, e⟩ := jbind e
  refine ey_getf_r (cd_18 rfl) mt_18 rfl rfl rfl e81 ?_
  obtain ⟨a82, e83, e⟩ := jbind e
  refine ey_rs (s0 := [jR r80]) (s1 := [jR (some a82)]) (by rw [e83]) ?_
  obtain ⟨v84, e85, e⟩ := jbind e
  refine ey_getf_i (cd_18 rfl) mt_18 rfl rfl rfl e85 ?_
  refine ey_aload_n (cd_18 rfl) g0 ?_
  obtain ⟨r86, e87, e⟩ := jbind e
  refine ey_getf_r (cd_18 rfl) mt_18 rfl rfl rfl e87 ?_
  obtain ⟨a88, e89, e⟩ := jbind e
  refine ey_rs (s0 := [jR r86, jI v84]) (s1 := [jR (some a88), jI v84]) (by rw [e89]) ?_
  obtain ⟨v90, e91, e⟩ := jbind e
  refine ey_getf_i (cd_18 rfl) mt_18 rfl rfl rfl e91 ?_
  refine ey_imul (cd_18 rfl) ?_
  refine ey_aload_n (cd_18 rfl) g0 ?_
  obtain ⟨r92, e93, e⟩ := jbind e
  refine ey_getf_r (cd_18 rfl) mt_18 rfl rfl rfl e93 ?_
  obtain ⟨a94, e95, e⟩ := jbind e
  refine ey_rs (s0 := [jR r92, jI (v84 * v90)]) (s1 := [jR (some a94), jI (v84 * v90)]) (by rw [e95]) ?_
  obtain ⟨v96, e97, e⟩ := jbind e
  refine ey_getf_i (cd_18 rfl) mt_18 rfl rfl rfl e97 ?_
  refine ey_imul (cd_18 rfl) ?_
  refine ey_istore_n (cd_18 rfl) mt_18 rfl ?_
  refine ey_iconst (cd_18 rfl) ?_
  refine ey_istore (cd_18 rfl) mt_18 rfl ?_
  obtain ⟨x117, e118, e⟩ := jbind e
  refine jk_18_l128 e118 ?_ (jup (jup lv 3 (jI ((v84 * v90) * v96))) 4 (jI 0)) g0 g1 (jup_pi (lv := (jup lv 3 (jI ((v84 * v90) * v96)))) (j := 3) (v := jI 0) (z := ((v84 * v90) * v96)) rfl) rfl
  intro lv g0 g1 g3
  refine ey_iload_n (cd_18 rfl) g1 ?_
  by_cases q119 : (jw p0) = 0
  · rw [if_pos q119] at e
    refine ey_zeq (cd_18 rfl) rfl rfl q119 ?_
    exact jk_18_b181 e lv g0 g1 g3
  · rw [if_neg q119] at e
    refine ey_yeq (cd_18 rfl) rfl rfl q119 ?_
    refine ey_iload_n (cd_18 rfl) g3 ?_
    refine ey_aload_n (cd_18 rfl) g0 ?_
    obtain ⟨v166, e167, e⟩ := jbind e
    refine ey_getf_i (cd_18 rfl) mt_18 rfl rfl rfl e167 ?_
    by_cases q168 : (jw v166) ≤ (jw x117)
    · rw [if_pos q168] at e
      refine ey_cge (cd_18 rfl) rfl rfl rfl q168 ?_
      exact jk_18_b244 e lv 
    · rw [if_neg q168] at e
      refine ey_nge (cd_18 rfl) rfl rfl rfl q168 ?_
      exact jk_18_b181 e lv g0 g1 g3
theorem cd_19 {pc : Nat} {i : Instr × Nat} (h : mm_lk mm_c19 pc = some i) : mm_cd 19 pc = some i := h
theorem mt_19 : mm_MT 19 = (1, 1, none, 0, 0, []) := rfl
set_option maxRecDepth 100000 in
theorem ok_19 {L : Nat} {xs : Nat → Int32} {this : Nat}  {h : jH} {o : jH} (e : jd_19 this  h = some o) : mm_Runs (mm_xt L xs) 1 19 ([jR (some this)].map jcv) (jaH h) (.inl (none, jaH o)) := by
  refine ey_run0 _ mt_19 (jsl_s rfl) ?_
  unfold jd_19 at e
  refine ey_aload_n (cd_19 rfl) rfl ?_
  obtain ⟨r1, e2, e⟩ := jbind e
  refine ey_getf_r (cd_19 rfl) mt_19 rfl rfl rfl e2 ?_
  refine ey_iconst (cd_19 rfl) ?_
  refine ey_aload_n (cd_19 rfl) rfl ?_
  obtain ⟨r3, e4, e⟩ := jbind e
  refine ey_getf_r (cd_19 rfl) mt_19 rfl rfl rfl e4 ?_
  obtain ⟨a5, e6, e⟩ := jbind e
  refine ey_rs (s0 := [jR r3, jI 0, jR r1]) (s1 := [jR (some a5), jI 0, jR r1]) (by rw [e6]) ?_
  obtain ⟨r7, e8, e⟩ := jbind e
  refine ey_getf_r (cd_19 rfl) mt_19 rfl rfl rfl e8 ?_
  refine ey_iconst (cd_19 rfl) ?_
  refine ey_bipush (cd_19 rfl) (by decide) ?_
  obtain ⟨a9, e10, e⟩ := jbind e
  refine ey_rs (s0 := [jI 96, jI 0, jR r7, jI 0, jR r1]) (s1 := [jI 96, jI 0, jR (some a9), jI 0, jR r1]) (by rw [e10]) ?_
  obtain ⟨a11, e12, e⟩ := jbind e
  refine ey_rs (s0 := [jI 96, jI 0, jR (some a9), jI 0, jR r1]) (s1 := [jI 96, jI 0, jR (some a9), jI 0, jR (some a11)]) (by rw [e12]) ?_
  obtain ⟨h13, e14, e⟩ := jbind e
  refine ey_cpy (cd_19 rfl) mt_19 rfl (jsml_s rfl) e14 ?_
  refine ey_aload_n (cd_19 rfl) rfl ?_
  obtain ⟨r15, e16, e⟩ := jbind e
  refine ey_getf_r (cd_19 rfl) mt_19 rfl rfl rfl e16 ?_
  refine ey_iconst (cd_19 rfl) ?_
  refine ey_aload_n (cd_19 rfl) rfl ?_
  obtain ⟨r17, e18, e⟩ := jbind e
  refine ey_getf_r (cd_19 rfl) mt_19 rfl rfl rfl e18 ?_
  obtain ⟨a19, e20, e⟩ := jbind e
  refine ey_rs (s0 := [jR r17, jI 0, jR r15]) (s1 := [jR (some a19), jI 0, jR r15]) (by rw [e20]) ?_
  obtain ⟨r21, e22, e⟩ := jbind e
  refine ey_getf_r (cd_19 rfl) mt_19 rfl rfl rfl e22 ?_
  refine ey_iconst (cd_19 rfl) ?_
  refine ey_bipush (cd_19 rfl) (by decide) ?_
  obtain ⟨a23, e24, e⟩ := jbind e
  refine ey_rs (s0 := [jI 96, jI 0, jR r21, jI 0, jR r15]) (s1 := [jI 96, jI 0, jR (some a23), jI 0, jR r15]) (by rw [e24]) ?_
  obtain ⟨a25, e26, e⟩ := jbind e
  refine ey_rs (s0 := [jI 96, jI 0, jR (some a23), jI 0, jR r15]) (s1 := [jI 96, jI 0, jR (some a23), jI 0, jR (some a25)]) (by rw [e26]) ?_
  obtain ⟨h27, e28, e⟩ := jbind e
  refine ey_cpy (cd_19 rfl) mt_19 rfl (jsml_s rfl) e28 ?_
  refine ey_aload_n (cd_19 rfl) rfl ?_
  obtain ⟨r29, e30, e⟩ := jbind e
  refine ey_getf_r (cd_19 rfl) mt_19 rfl rfl rfl e30 ?_
  refine ey_iconst (cd_19 rfl) ?_
  refine ey_aload_n (cd_19 rfl) rfl ?_
  obtain ⟨r31, e32, e⟩ := jbind e
  refine ey_getf_r (cd_19 rfl) mt_19 rfl rfl rfl e32 ?_
  obtain ⟨a33, e34, e⟩ := jbind e
  refine ey_rs (s0 := [jR r31, jI 0, jR r29]) (s1 := [jR (some a33), jI 0, jR r29]) (by rw [e34]) ?_
  obtain ⟨r35, e36, e⟩ := jbind e
  refine ey_getf_r (cd_19 rfl) mt_19 rfl rfl rfl e36 ?_
  refine ey_iconst (cd_19 rfl) ?_
  refine ey_iconst (cd_19 rfl) ?_
  obtain ⟨a37, e38, e⟩ := jbind e
  refine ey_rs (s0 := [jI 4, jI 0, jR r35, jI 0, jR r29]) (s1 := [jI 4, jI 0, jR (some a37), jI 0, jR r29]) (by rw [e38]) ?_
  obtain ⟨a39, e40, e⟩ := jbind e
  refine ey_rs (s0 := [jI 4, jI 0, jR (some a37), jI 0, jR r29]) (s1 := [jI 4, jI 0, jR (some a37), jI 0, jR (some a39)]) (by rw [e40]) ?_
  obtain ⟨h41, e42, e⟩ := jbind e
  refine ey_cpy (cd_19 rfl) mt_19 rfl (jsml_s rfl) e42 ?_
  cases e
  exact ey_retv (cd_19 rfl) mt_19 rfl
theorem cd_35 {pc : Nat} {i : Instr × Nat} (h : mm_lk mm_c35 pc = some i) : mm_cd 35 pc = some i := h
theorem mt_35 : mm_MT 35 = (2, 4, some .int, 2, 0, []) := rfl
set_option maxRecDepth 100000 in
theorem jk_35_s4 {L : Nat} {xs : Nat → Int32} {this : Nat} {x2 : Int} {x3 : Int} {h : jH} {o : (Int ⊕ (Int ⊕ Unit))} {r : mm_R} (e : jd_35_s4 this x2 x3 h = some o) (K : jsm (fun s => (∀ lv : jL, lv 0 = some (jR (some this)) → lv 2 = some (jI x2) → lv 3 = some (jI s) → ey (mm_xt L xs) 0 35 4 lv [] h r)) (fun x => (jsm (fun y => (∀ lv : jL, lv 3 = some (jI y) → ey (mm_xt L xs) 0 35 19 lv [] h r)) (fun z => (∀ lv : jL, ey (mm_xt L xs) 0 35 27 lv [] h r)) x)) o) : ∀ lv : jL, lv 0 = some (jR (some this)) → lv 2 = some (jI x2) → lv 3 = some (jI x3) → ey (mm_xt L xs) 0 35 4 lv [] h r := by
  intro lv f0 f2 f3
  unfold jd_35_s4 at e
  refine ey_iload_n (cd_35 rfl) f3 ?_
  refine ey_iload_n (cd_35 rfl) f2 ?_
  by_cases q1 : (jw x3) < (jw x2)
  · rw [if_pos q1] at e
    refine ey_clt (cd_35 rfl) rfl rfl rfl q1 ?_
    cases e
    exact K lv 
  · rw [if_neg q1] at e
    refine ey_nlt (cd_35 rfl) rfl rfl rfl q1 ?_
    refine ey_aload_n (cd_35 rfl) f0 ?_
    obtain ⟨r2, e3, e⟩ := jbind e
    refine ey_getf_r (cd_35 rfl) mt_35 rfl rfl rfl e3 ?_
    refine ey_iload_n (cd_35 rfl) f3 ?_
    obtain ⟨a4, e5, e⟩ := jbind e
    refine ey_rs (s0 := [jI x3, jR r2]) (s1 := [jI x3, jR (some a4)]) (by rw [e5]) ?_
    obtain ⟨v6, e7, e⟩ := jbind e
    refine ey_iald (cd_35 rfl) e7 ?_
    refine ey_iconst (cd_35 rfl) ?_
    by_cases q8 : (jw v6) = 2
    · rw [if_pos q8] at e
      refine ey_ceq (cd_35 rfl) rfl rfl (show jw 2 = 2 from by decide) q8 ?_
      refine ey_iinc (cd_35 rfl) mt_35 rfl f3 ?_
      refine ey_goto (cd_35 rfl) rfl ?_
      cases e
      exact K (jup lv 3 (jI (x3 + (-1)))) f0 (jup_pi (lv := lv) (j := 2) (v := jI (x3 + (-1))) (z := x2) f2) rfl
    · rw [if_neg q8] at e
      refine ey_neq (cd_35 rfl) rfl rfl (show jw 2 = 2 from by decide) q8 ?_
      cases e
      exact K lv f3
theorem jk_35_l4 {L : Nat} {xs : Nat → Int32} {this : Nat} {x2 : Int} {x3 : Int} {h : jH} {x : (Int ⊕ Unit)} {r : mm_R} (e : jd_35_l4 this x2 x3 h = some x) (K : (jsm (fun y => (∀ lv : jL, lv 3 = some (jI y) → ey (mm_xt L xs) 0 35 19 lv [] h r)) (fun z => (∀ lv : jL, ey (mm_xt L xs) 0 35 27 lv [] h r)) x)) : ∀ lv : jL, lv 0 = some (jR (some this)) → lv 2 = some (jI x2) → lv 3 = some (jI x3) → ey (mm_xt L xs) 0 35 4 lv [] h r := by
  unfold jd_35_l4 at e
  exact jlp_ok2 (P := fun s => ∀ lv : jL, lv 0 = some (jR (some this)) → lv 2 = some (jI x2) → lv 3 = some (jI s) → ey (mm_xt L xs) 0 35 4 lv [] h r) (Q := fun x => (jsm (fun y => (∀ lv : jL, lv 3 = some (jI y) → ey (mm_xt L xs) 0 35 19 lv [] h r)) (fun z => (∀ lv : jL, ey (mm_xt L xs) 0 35 27 lv [] h r)) x)) (fun s q hq hk => jk_35_s4 hq hk) jfu _ x e K
set_option maxRecDepth 100000 in
theorem ok_35 {L : Nat} {xs : Nat → Int32} {this : Nat} {p0 : Int} {p1 : Int} {h : jH} {o : Int} (e : jd_35 this p0 p1 h = some o) : mm_Runs (mm_xt L xs) 1 35 ([jR (some this), jI p0, jI p1].map jcv) (jaH h) (.inl (some (jcv (jI o)), jaH h)) := by
  refine ey_run0 _ mt_35 (jsl_s rfl) ?_
  unfold jd_35 at e
  refine ey_iload_n (cd_35 rfl) rfl ?_
  refine ey_iconst (cd_35 rfl) ?_
  refine ey_isub (cd_35 rfl) ?_
  refine ey_istore_n (cd_35 rfl) mt_35 rfl ?_
  obtain ⟨x9, e10, e⟩ := jbind e
  refine jk_35_l4 e10 ?_ (jup (jlf (jla 0 [jR (some this), jI p0, jI p1])) 3 (jI (p0 - 1))) rfl (jup_pi (lv := (jlf (jla 0 [jR (some this), jI p0, jI p1]))) (j := 2) (v := jI (p0 - 1)) (z := p1) rfl) rfl
  cases x9 with
  | inl y11 =>
    replace e : (some y11 : Option Int) = some o := e
    intro lv g3
    refine ey_iload_n (cd_35 rfl) g3 ?_
    cases e
    exact ey_reti (cd_35 rfl) mt_35 rfl
  | inr y12 =>
    replace e : (some (-1) : Option Int) = some o := e
    intro lv 
    refine ey_iconst (cd_35 rfl) ?_
    cases e
    exact ey_reti (cd_35 rfl) mt_35 rfl
theorem cd_73 {pc : Nat} {i : Instr × Nat} (h : mm_lk mm_c73 pc = some i) : mm_cd 73 pc = some i := h
theorem mt_73 : mm_MT 73 = (5, 8, none, 4, 0, []) := rfl
set_option maxRecDepth 100000 in
theorem jk_73_b101 {L : Nat} {xs : Nat → Int32} {this : Nat} {y0 : Option Nat} {h : jH} {o : jH} (e : jd_73_b101 this y0 h = some o) : ∀ lv : jL, ey (mm_xt L xs) 1 73 101 lv [jR y0, jR (some this)] h (.inl (none, jaH o)) := by
  intro lv 
  unfold jd_73_b101 at e
  obtain ⟨h52, e53, e⟩ := jbind e
  refine ey_putf_r (cd_73 rfl) mt_73 rfl rfl rfl e53 ?_
  cases e
  exact ey_retv (cd_73 rfl) mt_73 rfl
set_option maxRecDepth 100000 in
theorem jk_73_b100 {L : Nat} {xs : Nat → Int32} {this : Nat}  {h : jH} {o : jH} (e : jd_73_b100 this  h = some o) : ∀ lv : jL, ey (mm_xt L xs) 1 73 100 lv [jR (some this)] h (.inl (none, jaH o)) := by
  intro lv 
  unfold jd_73_b100 at e
  refine ey_null (cd_73 rfl) ?_
  exact jk_73_b101 e lv 
set_option maxRecDepth 100000 in
theorem jk_73_b73 {L : Nat} {xs : Nat → Int32} {this : Nat} {x2 : Option Nat} {x5 : Int} {y0 : Option Nat} {h : jH} {o : jH} (e : jd_73_b73 this x2 x5 y0 h = some o) : ∀ lv : jL, lv 0 = some (jR (some this)) → lv 2 = some (jR x2) → lv 5 = some (jI x5) → ey (mm_xt L xs) 1 73 73 lv [jR y0, jR (some this)] h (.inl (none, jaH o)) := by
  intro lv f0 f2 f5
  unfold jd_73_b73 at e
  obtain ⟨h46, e47, e⟩ := jbind e
  refine ey_putf_r (cd_73 rfl) mt_73 rfl rfl rfl e47 ?_
  refine ey_aload_n (cd_73 rfl) f0 ?_
  refine ey_aload_n (cd_73 rfl) f0 ?_
  obtain ⟨v48, e49, e⟩ := jbind e
  refine ey_getf_i (cd_73 rfl) mt_73 rfl rfl rfl e49 ?_
  refine ey_iconst (cd_73 rfl) ?_
  by_cases q50 : (jw v48) = 2
  · rw [if_pos q50] at e
    refine ey_nne (cd_73 rfl) rfl rfl (show jw 2 = 2 from by decide) (fun w => w q50) ?_
    refine ey_iload (cd_73 rfl) f5 ?_
    by_cases q51 : (jw x5) < 0
    · rw [if_pos q51] at e
      refine ey_zlt (cd_73 rfl) rfl rfl q51 ?_
      exact jk_73_b100 e lv 
    · rw [if_neg q51] at e
      refine ey_ylt (cd_73 rfl) rfl rfl q51 ?_
      refine ey_aload_n (cd_73 rfl) f2 ?_
      obtain ⟨a54, e55, e⟩ := jbind e
      refine ey_rs (s0 := [jR x2, jR (some this)]) (s1 := [jR (some a54), jR (some this)]) (by rw [e55]) ?_
      obtain ⟨r56, e57, e⟩ := jbind e
      refine ey_getf_r (cd_73 rfl) mt_73 rfl rfl rfl e57 ?_
      refine ey_iload (cd_73 rfl) f5 ?_
      obtain ⟨a58, e59, e⟩ := jbind e
      refine ey_rs (s0 := [jI x5, jR r56, jR (some this)]) (s1 := [jI x5, jR (some a58), jR (some this)]) (by rw [e59]) ?_
      obtain ⟨r60, e61, e⟩ := jbind e
      refine ey_aald (cd_73 rfl) (by decide) e61 ?_
      refine ey_goto (cd_73 rfl) rfl ?_
      exact jk_73_b101 e lv 
  · rw [if_neg q50] at e
    refine ey_cne (cd_73 rfl) rfl rfl (show jw 2 = 2 from by decide) q50 ?_
    exact jk_73_b100 e lv 
set_option maxRecDepth 100000 in
theorem ok_73 {L : Nat} {xs : Nat → Int32} {this : Nat} {p0 : Option Nat} {p1 : Option Nat} {p2 : Int} {p3 : Int} {h : jH} {o : jH} (e : jd_73 this p0 p1 p2 p3 h = some o) : mm_Runs (mm_xt L xs) 2 73 ([jR (some this), jR p0, jR p1, jI p2, jI p3].map jcv) (jaH h) (.inl (none, jaH o)) := by
  refine ey_run0 _ mt_73 (jsl_s rfl) ?_
  unfold jd_73 at e
  refine ey_aload_n (cd_73 rfl) rfl ?_
  refine ey_aload_n (cd_73 rfl) rfl ?_
  obtain ⟨a1, e2, e⟩ := jbind e
  refine ey_rs (s0 := [jR p0, jR (some this)]) (s1 := [jR (some a1), jR (some this)]) (by rw [e2]) ?_
  obtain ⟨r3, e4, e⟩ := jbind e
  refine ey_getf_r (cd_73 rfl) mt_73 rfl rfl rfl e4 ?_
  refine ey_iload_n (cd_73 rfl) rfl ?_
  obtain ⟨a5, e6, e⟩ := jbind e
  refine ey_rs (s0 := [jI p2, jR r3, jR (some this)]) (s1 := [jI p2, jR (some a5), jR (some this)]) (by rw [e6]) ?_
  obtain ⟨v7, e8, e⟩ := jbind e
  refine ey_iald (cd_73 rfl) e8 ?_
  obtain ⟨h9, e10, e⟩ := jbind e
  refine ey_putf_i (cd_73 rfl) mt_73 rfl rfl rfl e10 ?_
  refine ey_aload_n (cd_73 rfl) rfl ?_
  refine ey_aload_n (cd_73 rfl) rfl ?_
  obtain ⟨a11, e12, e⟩ := jbind e
  refine ey_rs (s0 := [jR p1, jR (some this)]) (s1 := [jR (some a11), jR (some this)]) (by rw [e12]) ?_
  obtain ⟨r13, e14, e⟩ := jbind e
  refine ey_getf_r (cd_73 rfl) mt_73 rfl rfl rfl e14 ?_
  refine ey_iload_n (cd_73 rfl) rfl ?_
  obtain ⟨a15, e16, e⟩ := jbind e
  refine ey_rs (s0 := [jI p2, jR r13, jR (some this)]) (s1 := [jI p2, jR (some a15), jR (some this)]) (by rw [e16]) ?_
  obtain ⟨r17, e18, e⟩ := jbind e
  refine ey_aald (cd_73 rfl) (by decide) e18 ?_
  obtain ⟨h19, e20, e⟩ := jbind e
  refine ey_putf_r (cd_73 rfl) mt_73 rfl rfl rfl e20 ?_
  refine ey_aload_n (cd_73 rfl) rfl ?_
  refine ey_iload_n (cd_73 rfl) rfl ?_
  refine ey_iload (cd_73 rfl) rfl ?_
  obtain ⟨a21, e22, e⟩ := jbind e
  refine ey_rs (s0 := [jI p3, jI p2, jR p0]) (s1 := [jI p3, jI p2, jR (some a21)]) (by rw [e22]) ?_
  obtain ⟨u23, e24, e⟩ := jbind e
  obtain ⟨v25, e26, e⟩ := jbind e
  refine ey_cv (s0 := [jI p3, jI p2, jR (some a21)]) (s1 := []) (st' := [jI v25]) (cd_73 rfl) mt_73 mt_35 rfl rfl rfl (jck_s e24) rfl (jsml_s rfl) rfl (ok_35 e26) ?_
  refine ey_istore (cd_73 rfl) mt_73 rfl ?_
  refine ey_aload_n (cd_73 rfl) rfl ?_
  refine ey_iload (cd_73 rfl) rfl ?_
  refine ey_iload (cd_73 rfl) (jup_pi (lv := (jlf (jla 0 [jR (some this), jR p0, jR p1, jI p2, jI p3]))) (j := 4) (v := jI v25) (z := p3) rfl) ?_
  obtain ⟨a27, e28, e⟩ := jbind e
  refine ey_rs (s0 := [jI p3, jI v25, jR p0]) (s1 := [jI p3, jI v25, jR (some a27)]) (by rw [e28]) ?_
  obtain ⟨u29, e30, e⟩ := jbind e
  obtain ⟨v31, e32, e⟩ := jbind e
  refine ey_cv (s0 := [jI p3, jI v25, jR (some a27)]) (s1 := []) (st' := [jI v31]) (cd_73 rfl) mt_73 mt_35 rfl rfl rfl (jck_s e30) rfl (jsml_s rfl) rfl (ok_35 e32) ?_
  refine ey_istore (cd_73 rfl) mt_73 rfl ?_
  refine ey_aload_n (cd_73 rfl) rfl ?_
  obtain ⟨v33, e34, e⟩ := jbind e
  refine ey_getf_i (cd_73 rfl) mt_73 rfl rfl rfl e34 ?_
  refine ey_iconst (cd_73 rfl) ?_
  have K62 : ∀ lv : jL, lv 0 = some (jR (some this)) → lv 2 = some (jR p1) → lv 5 = some (jI v25) → ey (mm_xt L xs) 1 73 54 lv [jI (if (jw v33) = 2 then v31 else v25)] h19 (.inl (none, jaH o)) := by
    intro lv g0 g2 g5
    obtain ⟨z35, e36, e⟩ := jbind e
    refine ey_rs (s0 := [jI (if (jw v33) = 2 then v31 else v25)]) (s1 := [jI z35]) (by rw [show (if (jw v33) = 2 then v31 else v25) = z35 from Option.some.inj e36]) ?_
    refine ey_istore (cd_73 rfl) mt_73 rfl ?_
    refine ey_aload_n (cd_73 rfl) g0 ?_
    refine ey_iload (cd_73 rfl) rfl ?_
    by_cases q37 : 0 ≤ (jw z35)
    · rw [if_pos q37] at e
      refine ey_zge (cd_73 rfl) rfl rfl q37 ?_
      refine ey_aload_n (cd_73 rfl) g2 ?_
      obtain ⟨a38, e39, e⟩ := jbind e
      refine ey_rs (s0 := [jR p1, jR (some this)]) (s1 := [jR (some a38), jR (some this)]) (by rw [e39]) ?_
      obtain ⟨r40, e41, e⟩ := jbind e
      refine ey_getf_r (cd_73 rfl) mt_73 rfl rfl rfl e41 ?_
      refine ey_iload (cd_73 rfl) rfl ?_
      obtain ⟨a42, e43, e⟩ := jbind e
      refine ey_rs (s0 := [jI z35, jR r40, jR (some this)]) (s1 := [jI z35, jR (some a42), jR (some this)]) (by rw [e43]) ?_
      obtain ⟨r44, e45, e⟩ := jbind e
      refine ey_aald (cd_73 rfl) (by decide) e45 ?_
      exact jk_73_b73 e (jup lv 7 (jI z35)) g0 g2 g5
    · rw [if_neg q37] at e
      refine ey_yge (cd_73 rfl) rfl rfl q37 ?_
      refine ey_null (cd_73 rfl) ?_
      refine ey_goto (cd_73 rfl) rfl ?_
      exact jk_73_b73 e (jup lv 7 (jI z35)) g0 g2 g5
  by_cases q63 : (jw v33) = 2
  · refine ey_nne (cd_73 rfl) rfl rfl (show jw 2 = 2 from by decide) (fun w => w q63) ?_
    refine ey_iload (cd_73 rfl) rfl ?_
    refine ey_goto (cd_73 rfl) rfl ?_
    exact ey_rs (s0 := [jI v31]) (s1 := [jI (if (jw v33) = 2 then v31 else v25)]) (by rw [show ((if (jw v33) = 2 then v31 else v25) : Int) = v31 from (if_pos q63)]) (K62 (jup (jup (jlf (jla 0 [jR (some this), jR p0, jR p1, jI p2, jI p3])) 5 (jI v25)) 6 (jI v31)) rfl rfl (jup_pi (lv := (jup (jlf (jla 0 [jR (some this), jR p0, jR p1, jI p2, jI p3])) 5 (jI v25))) (j := 5) (v := jI v31) (z := v25) rfl))
  · refine ey_cne (cd_73 rfl) rfl rfl (show jw 2 = 2 from by decide) q63 ?_
    refine ey_iload (cd_73 rfl) (jup_pi (lv := (jup (jlf (jla 0 [jR (some this), jR p0, jR p1, jI p2, jI p3])) 5 (jI v25))) (j := 5) (v := jI v31) (z := v25) rfl) ?_
    exact ey_rs (s0 := [jI v25]) (s1 := [jI (if (jw v33) = 2 then v31 else v25)]) (by rw [show ((if (jw v33) = 2 then v31 else v25) : Int) = v25 from (if_neg q63)]) (K62 (jup (jup (jlf (jla 0 [jR (some this), jR p0, jR p1, jI p2, jI p3])) 5 (jI v25)) 6 (jI v31)) rfl rfl (jup_pi (lv := (jup (jlf (jla 0 [jR (some this), jR p0, jR p1, jI p2, jI p3])) 5 (jI v25))) (j := 5) (v := jI v31) (z := v25) rfl))
theorem cd_74 {pc : Nat} {i : Instr × Nat} (h : mm_lk mm_c74 pc = some i) : mm_cd 74 pc = some i := h
theorem mt_74 : mm_MT 74 = (5, 4, none, 1, 0, []) := rfl
set_option maxRecDepth 100000 in
theorem jk_74_b54 {L : Nat} {xs : Nat → Int32} {this : Nat} {x3 : Int} {y0 : Int} {y1 : Int} {y2 : Option Nat} {h : jH} {o : ((Int × jH) ⊕ jH)} {r : mm_R} (e : jd_74_b54 this x3 y0 y1 y2 h = some o) (K : jsm (fun s => (∀ lv : jL, lv 0 = some (jR (some this)) → lv 3 = some (jI s.1) → ey (mm_xt L xs) 0 74 27 lv [] s.2 r)) (fun x => (∀ lv : jL, ey (mm_xt L xs) 0 74 61 lv [] x r)) o) : ∀ lv : jL, lv 0 = some (jR (some this)) → lv 3 = some (jI x3) → ey (mm_xt L xs) 0 74 54 lv [jI y0, jI y1, jR y2] h r := by
  intro lv f0 f3
  unfold jd_74_b54 at e
  obtain ⟨a21, e22, e⟩ := jbind e
  refine ey_rs (s0 := [jI y0, jI y1, jR y2]) (s1 := [jI y0, jI y1, jR (some a21)]) (by rw [e22]) ?_
  obtain ⟨h23, e24, e⟩ := jbind e
  refine ey_iast (cd_74 rfl) e24 ?_
  refine ey_iinc (cd_74 rfl) mt_74 rfl f3 ?_
  refine ey_goto (cd_74 rfl) rfl ?_
  cases e
  exact K (jup lv 3 (jI (x3 + 1))) f0 rfl
set_option maxRecDepth 100000 in
theorem jk_74_s27 {L : Nat} {xs : Nat → Int32} {this : Nat} {x3 : Int} {h : jH} {o : ((Int × jH) ⊕ jH)} {r : mm_R} (e : jd_74_s27 this x3 h = some o) (K : jsm (fun s => (∀ lv : jL, lv 0 = some (jR (some this)) → lv 3 = some (jI s.1) → ey (mm_xt L xs) 0 74 27 lv [] s.2 r)) (fun x => (∀ lv : jL, ey (mm_xt L xs) 0 74 61 lv [] x r)) o) : ∀ lv : jL, lv 0 = some (jR (some this)) → lv 3 = some (jI x3) → ey (mm_xt L xs) 0 74 27 lv [] h r := by
  intro lv f0 f3
  unfold jd_74_s27 at e
  refine ey_iload_n (cd_74 rfl) f3 ?_
  refine ey_iconst (cd_74 rfl) ?_
  by_cases q15 : 4 ≤ (jw x3)
  · rw [if_pos q15] at e
    refine ey_cge (cd_74 rfl) rfl rfl (show jw 4 = 4 from by decide) q15 ?_
    cases e
    exact K lv 
  · rw [if_neg q15] at e
    refine ey_nge (cd_74 rfl) rfl rfl (show jw 4 = 4 from by decide) q15 ?_
    refine ey_aload_n (cd_74 rfl) f0 ?_
    obtain ⟨r16, e17, e⟩ := jbind e
    refine ey_getf_r (cd_74 rfl) mt_74 rfl rfl rfl e17 ?_
    refine ey_iload_n (cd_74 rfl) f3 ?_
    refine ey_aload_n (cd_74 rfl) f0 ?_
    obtain ⟨v18, e19, e⟩ := jbind e
    refine ey_getf_i (cd_74 rfl) mt_74 rfl rfl rfl e19 ?_
    by_cases q20 : (jw v18) = 0
    · rw [if_pos q20] at e
      refine ey_yne (cd_74 rfl) rfl rfl (fun w => w q20) ?_
      refine ey_iconst (cd_74 rfl) ?_
      refine ey_goto (cd_74 rfl) rfl ?_
      exact jk_74_b54 e K lv f0 f3
    · rw [if_neg q20] at e
      refine ey_zne (cd_74 rfl) rfl rfl q20 ?_
      refine ey_aload_n (cd_74 rfl) f0 ?_
      obtain ⟨r25, e26, e⟩ := jbind e
      refine ey_getf_r (cd_74 rfl) mt_74 rfl rfl rfl e26 ?_
      refine ey_iload_n (cd_74 rfl) f3 ?_
      obtain ⟨a27, e28, e⟩ := jbind e
      refine ey_rs (s0 := [jI x3, jR r25, jI x3, jR r16]) (s1 := [jI x3, jR (some a27), jI x3, jR r16]) (by rw [e28]) ?_
      obtain ⟨v29, e30, e⟩ := jbind e
      refine ey_iald (cd_74 rfl) e30 ?_
      exact jk_74_b54 e K lv f0 f3
theorem jk_74_l27 {L : Nat} {xs : Nat → Int32} {this : Nat} {x3 : Int} {h : jH} {x : jH} {r : mm_R} (e : jd_74_l27 this x3 h = some x) (K : (∀ lv : jL, ey (mm_xt L xs) 0 74 61 lv [] x r)) : ∀ lv : jL, lv 0 = some (jR (some this)) → lv 3 = some (jI x3) → ey (mm_xt L xs) 0 74 27 lv [] h r := by
  unfold jd_74_l27 at e
  exact jlp_ok2 (P := fun s => ∀ lv : jL, lv 0 = some (jR (some this)) → lv 3 = some (jI s.1) → ey (mm_xt L xs) 0 74 27 lv [] s.2 r) (Q := fun x => (∀ lv : jL, ey (mm_xt L xs) 0 74 61 lv [] x r)) (fun s q hq hk => jk_74_s27 hq hk) jfu _ x e K
set_option maxRecDepth 100000 in
theorem ok_74 {L : Nat} {xs : Nat → Int32} {this : Nat} {p0 : Int} {h : jH} {o : jH} (e : jd_74 this p0 h = some o) : mm_Runs (mm_xt L xs) 1 74 ([jR (some this), jI p0].map jcv) (jaH h) (.inl (none, jaH o)) := by
  refine ey_run0 _ mt_74 (jsl_s rfl) ?_
  unfold jd_74 at e
  refine ey_aload_n (cd_74 rfl) rfl ?_
  obtain ⟨r1, e2, e⟩ := jbind e
  refine ey_getf_r (cd_74 rfl) mt_74 rfl rfl rfl e2 ?_
  obtain ⟨a3, e4, e⟩ := jbind e
  refine ey_rs (s0 := [jR r1]) (s1 := [jR (some a3)]) (by rw [e4]) ?_
  obtain ⟨v5, e6, e⟩ := jbind e
  refine ey_getf_i (cd_74 rfl) mt_74 rfl rfl rfl e6 ?_
  refine ey_bipush (cd_74 rfl) (by decide) ?_
  refine ey_idiv (cd_74 rfl) (by decide) ?_
  refine ey_istore_n (cd_74 rfl) mt_74 rfl ?_
  refine ey_aload_n (cd_74 rfl) rfl ?_
  refine ey_iload_n (cd_74 rfl) (jup_pi (lv := (jlf (jla 0 [jR (some this), jI p0]))) (j := 1) (v := jI (jdiv v5 8)) (z := p0) rfl) ?_
  refine ey_iload_n (cd_74 rfl) rfl ?_
  obtain ⟨u7, e8, e⟩ := jbind e
  refine ey_irem (cd_74 rfl) (jnz_s e8) ?_
  obtain ⟨h9, e10, e⟩ := jbind e
  refine ey_putf_i (cd_74 rfl) mt_74 rfl rfl rfl e10 ?_
  refine ey_aload_n (cd_74 rfl) rfl ?_
  refine ey_iload_n (cd_74 rfl) (jup_pi (lv := (jlf (jla 0 [jR (some this), jI p0]))) (j := 1) (v := jI (jdiv v5 8)) (z := p0) rfl) ?_
  refine ey_iload_n (cd_74 rfl) rfl ?_
  obtain ⟨u11, e12, e⟩ := jbind e
  refine ey_idiv (cd_74 rfl) (jnz_s e12) ?_
  obtain ⟨h13, e14, e⟩ := jbind e
  refine ey_putf_i (cd_74 rfl) mt_74 rfl rfl rfl e14 ?_
  refine ey_iconst (cd_74 rfl) ?_
  refine ey_istore_n (cd_74 rfl) mt_74 rfl ?_
  obtain ⟨x31, e32, e⟩ := jbind e
  refine jk_74_l27 e32 ?_ (jup (jup (jlf (jla 0 [jR (some this), jI p0])) 2 (jI (jdiv v5 8))) 3 (jI 0)) rfl rfl
  intro lv 
  cases e
  exact ey_retv (cd_74 rfl) mt_74 rfl
theorem cd_75 {pc : Nat} {i : Instr × Nat} (h : mm_lk mm_c75 pc = some i) : mm_cd 75 pc = some i := h
theorem mt_75 : mm_MT 75 = (5, 1, some .int, 0, 0, []) := rfl
set_option maxRecDepth 100000 in
theorem jk_75_b25 {L : Nat} {xs : Nat → Int32} {this : Nat} {y0 : Int} {h : jH} {o : Int} (e : jd_75_b25 this y0 h = some o) : ∀ lv : jL, ey (mm_xt L xs) 0 75 25 lv [jI y0] h (.inl (some (jcv (jI o)), jaH h)) := by
  intro lv 
  unfold jd_75_b25 at e
  cases e
  exact ey_reti (cd_75 rfl) mt_75 rfl
set_option maxRecDepth 100000 in
theorem ok_75 {L : Nat} {xs : Nat → Int32} {this : Nat}  {h : jH} {o : Int} (e : jd_75 this  h = some o) : mm_Runs (mm_xt L xs) 1 75 ([jR (some this)].map jcv) (jaH h) (.inl (some (jcv (jI o)), jaH h)) := by
  refine ey_run0 _ mt_75 (jsl_s rfl) ?_
  unfold jd_75 at e
  refine ey_aload_n (cd_75 rfl) rfl ?_
  obtain ⟨v1, e2, e⟩ := jbind e
  refine ey_getf_i (cd_75 rfl) mt_75 rfl rfl rfl e2 ?_
  by_cases q3 : (jw v1) = 0
  · rw [if_pos q3] at e
    refine ey_yne (cd_75 rfl) rfl rfl (fun w => w q3) ?_
    refine ey_iconst (cd_75 rfl) ?_
    refine ey_goto (cd_75 rfl) rfl ?_
    exact jk_75_b25 e (jlf (jla 0 [jR (some this)])) 
  · rw [if_neg q3] at e
    refine ey_zne (cd_75 rfl) rfl rfl q3 ?_
    refine ey_aload_n (cd_75 rfl) rfl ?_
    obtain ⟨v4, e5, e⟩ := jbind e
    refine ey_getf_i (cd_75 rfl) mt_75 rfl rfl rfl e5 ?_
    refine ey_iconst (cd_75 rfl) ?_
    have K6 : ∀ lv : jL, ey (mm_xt L xs) 0 75 25 lv [jI (if (jw v4) = 1 then 5 else 7)] h (.inl (some (jcv (jI o)), jaH h)) := by
      intro lv 
      exact jk_75_b25 e lv 
    by_cases q7 : (jw v4) = 1
    · refine ey_nne (cd_75 rfl) rfl rfl (show jw 1 = 1 from by decide) (fun w => w q7) ?_
      refine ey_iconst (cd_75 rfl) ?_
      refine ey_goto (cd_75 rfl) rfl ?_
      exact ey_rs (s0 := [jI 5]) (s1 := [jI (if (jw v4) = 1 then 5 else 7)]) (by rw [show ((if (jw v4) = 1 then 5 else 7) : Int) = 5 from (if_pos q7)]) (K6 (jlf (jla 0 [jR (some this)])) )
    · refine ey_cne (cd_75 rfl) rfl rfl (show jw 1 = 1 from by decide) q7 ?_
      refine ey_bipush (cd_75 rfl) (by decide) ?_
      exact ey_rs (s0 := [jI 7]) (s1 := [jI (if (jw v4) = 1 then 5 else 7)]) (by rw [show ((if (jw v4) = 1 then 5 else 7) : Int) = 7 from (if_neg q7)]) (K6 (jlf (jla 0 [jR (some this)])) )
theorem cd_93 {pc : Nat} {i : Instr × Nat} (h : mm_lk mm_c93 pc = some i) : mm_cd 93 pc = some i := h
theorem mt_93 : mm_MT 93 = (5, 10, none, 3, 0, []) := rfl
set_option maxRecDepth 100000 in
theorem jk_93_b122 {L : Nat} {xs : Nat → Int32} {this : Nat} {x1 : Option Nat} {x2 : Option Nat} {x3 : Int} {x4 : Int} {x5 : Int} {x6 : Int} {x7 : Int} {x8 : Int} {x9 : Int} {h : jH} {o : ((Int × Int × jH) ⊕ jH)} {r : mm_R} (e : jd_93_b122 this x1 x2 x3 x4 x5 x6 x7 x8 x9 h = some o) (K : jsm (fun s => (∀ lv : jL, lv 0 = some (jR (some this)) → lv 1 = some (jR x1) → lv 2 = some (jR x2) → lv 3 = some (jI x3) → lv 4 = some (jI x4) → lv 5 = some (jI x5) → lv 6 = some (jI x6) → lv 7 = some (jI x7) → lv 8 = some (jI s.1) → lv 9 = some (jI s.2.1) → ey (mm_xt L xs) 1 93 68 lv [] s.2.2 r)) (fun x => (∀ lv : jL, lv 0 = some (jR (some this)) → lv 1 = some (jR x1) → lv 2 = some (jR x2) → lv 3 = some (jI x3) → lv 4 = some (jI x4) → ey (mm_xt L xs) 1 93 135 lv [] x r)) o) : ∀ lv : jL, lv 0 = some (jR (some this)) → lv 1 = some (jR x1) → lv 2 = some (jR x2) → lv 3 = some (jI x3) → lv 4 = some (jI x4) → lv 5 = some (jI x5) → lv 6 = some (jI x6) → lv 7 = some (jI x7) → lv 8 = some (jI x8) → lv 9 = some (jI x9) → ey (mm_xt L xs) 1 93 122 lv [] h r := by
  intro lv f0 f1 f2 f3 f4 f5 f6 f7 f8 f9
  unfold jd_93_b122 at e
  refine ey_iload (cd_93 rfl) f8 ?_
  refine ey_iload (cd_93 rfl) f5 ?_
  refine ey_iadd (cd_93 rfl) ?_
  refine ey_istore (cd_93 rfl) mt_93 rfl ?_
  refine ey_iinc (cd_93 rfl) mt_93 rfl f9 ?_
  refine ey_goto (cd_93 rfl) rfl ?_
  cases e
  exact K (jup (jup lv 8 (jI (x8 + x5))) 9 (jI (x9 + 1))) f0 f1 f2 f3 f4 f5 f6 (jup_o rfl (jup_pi (lv := lv) (j := 7) (v := jI (x8 + x5)) (z := x7) f7)) (jup_pi (lv := (jup lv 8 (jI (x8 + x5)))) (j := 8) (v := jI (x9 + 1)) (z := (x8 + x5)) rfl) rfl
set_option maxRecDepth 100000 in
theorem jk_93_s68 {L : Nat} {xs : Nat → Int32} {this : Nat} {x1 : Option Nat} {x2 : Option Nat} {x3 : Int} {x4 : Int} {x5 : Int} {x6 : Int} {x7 : Int} {x8 : Int} {x9 : Int} {h : jH} {o : ((Int × Int × jH) ⊕ jH)} {r : mm_R} (e : jd_93_s68 this x1 x2 x3 x4 x5 x6 x7 x8 x9 h = some o) (K : jsm (fun s => (∀ lv : jL, lv 0 = some (jR (some this)) → lv 1 = some (jR x1) → lv 2 = some (jR x2) → lv 3 = some (jI x3) → lv 4 = some (jI x4) → lv 5 = some (jI x5) → lv 6 = some (jI x6) → lv 7 = some (jI x7) → lv 8 = some (jI s.1) → lv 9 = some (jI s.2.1) → ey (mm_xt L xs) 1 93 68 lv [] s.2.2 r)) (fun x => (∀ lv : jL, lv 0 = some (jR (some this)) → lv 1 = some (jR x1) → lv 2 = some (jR x2) → lv 3 = some (jI x3) → lv 4 = some (jI x4) → ey (mm_xt L xs) 1 93 135 lv [] x r)) o) : ∀ lv : jL, lv 0 = some (jR (some this)) → lv 1 = some (jR x1) → lv 2 = some (jR x2) → lv 3 = some (jI x3) → lv 4 = some (jI x4) → lv 5 = some (jI x5) → lv 6 = some (jI x6) → lv 7 = some (jI x7) → lv 8 = some (jI x8) → lv 9 = some (jI x9) → ey (mm_xt L xs) 1 93 68 lv [] h r := by
  intro lv f0 f1 f2 f3 f4 f5 f6 f7 f8 f9
  unfold jd_93_s68 at e
  refine ey_iload (cd_93 rfl) f9 ?_
  refine ey_iload (cd_93 rfl) f5 ?_
  by_cases q22 : (jw x5) ≤ (jw x9)
  · rw [if_pos q22] at e
    refine ey_cge (cd_93 rfl) rfl rfl rfl q22 ?_
    cases e
    exact K lv f0 f1 f2 f3 f4
  · rw [if_neg q22] at e
    refine ey_nge (cd_93 rfl) rfl rfl rfl q22 ?_
    refine ey_iload_n (cd_93 rfl) f3 ?_
    by_cases q23 : (jw x3) = 0
    · rw [if_pos q23] at e
      refine ey_zeq (cd_93 rfl) rfl rfl q23 ?_
      refine ey_aload_n (cd_93 rfl) f1 ?_
      obtain ⟨a24, e25, e⟩ := jbind e
      refine ey_rs (s0 := [jR x1]) (s1 := [jR (some a24)]) (by rw [e25]) ?_
      obtain ⟨r26, e27, e⟩ := jbind e
      refine ey_getf_r (cd_93 rfl) mt_93 rfl rfl rfl e27 ?_
      refine ey_iload (cd_93 rfl) f7 ?_
      refine ey_iload (cd_93 rfl) f9 ?_
      refine ey_iload (cd_93 rfl) f6 ?_
      refine ey_imul (cd_93 rfl) ?_
      refine ey_iadd (cd_93 rfl) ?_
      refine ey_aload_n (cd_93 rfl) f2 ?_
      refine ey_iload (cd_93 rfl) f8 ?_
      refine ey_iload (cd_93 rfl) f5 ?_
      obtain ⟨a28, e29, e⟩ := jbind e
      refine ey_rs (s0 := [jI x5, jI x8, jR x2, jI (x7 + (x9 * x6)), jR r26]) (s1 := [jI x5, jI x8, jR (some a28), jI (x7 + (x9 * x6)), jR r26]) (by rw [e29]) ?_
      obtain ⟨a30, e31, e⟩ := jbind e
      refine ey_rs (s0 := [jI x5, jI x8, jR (some a28), jI (x7 + (x9 * x6)), jR r26]) (s1 := [jI x5, jI x8, jR (some a28), jI (x7 + (x9 * x6)), jR (some a30)]) (by rw [e31]) ?_
      obtain ⟨h32, e33, e⟩ := jbind e
      refine ey_cpy (cd_93 rfl) mt_93 rfl (jsml_s rfl) e33 ?_
      exact jk_93_b122 e K lv f0 f1 f2 f3 f4 f5 f6 f7 f8 f9
    · rw [if_neg q23] at e
      refine ey_yeq (cd_93 rfl) rfl rfl q23 ?_
      refine ey_aload_n (cd_93 rfl) f2 ?_
      refine ey_iload (cd_93 rfl) f8 ?_
      refine ey_aload_n (cd_93 rfl) f1 ?_
      obtain ⟨a34, e35, e⟩ := jbind e
      refine ey_rs (s0 := [jR x1, jI x8, jR x2]) (s1 := [jR (some a34), jI x8, jR x2]) (by rw [e35]) ?_
      obtain ⟨r36, e37, e⟩ := jbind e
      refine ey_getf_r (cd_93 rfl) mt_93 rfl rfl rfl e37 ?_
      refine ey_iload (cd_93 rfl) f7 ?_
      refine ey_iload (cd_93 rfl) f9 ?_
      refine ey_iload (cd_93 rfl) f6 ?_
      refine ey_imul (cd_93 rfl) ?_
      refine ey_iadd (cd_93 rfl) ?_
      refine ey_iload (cd_93 rfl) f5 ?_
      obtain ⟨a38, e39, e⟩ := jbind e
      refine ey_rs (s0 := [jI x5, jI (x7 + (x9 * x6)), jR r36, jI x8, jR x2]) (s1 := [jI x5, jI (x7 + (x9 * x6)), jR (some a38), jI x8, jR x2]) (by rw [e39]) ?_
      obtain ⟨a40, e41, e⟩ := jbind e
      refine ey_rs (s0 := [jI x5, jI (x7 + (x9 * x6)), jR (some a38), jI x8, jR x2]) (s1 := [jI x5, jI (x7 + (x9 * x6)), jR (some a38), jI x8, jR (some a40)]) (by rw [e41]) ?_
      obtain ⟨h42, e43, e⟩ := jbind e
      refine ey_cpy (cd_93 rfl) mt_93 rfl (jsml_s rfl) e43 ?_
      refine ey_goto (cd_93 rfl) rfl ?_
      exact jk_93_b122 e K lv f0 f1 f2 f3 f4 f5 f6 f7 f8 f9
theorem jk_93_l68 {L : Nat} {xs : Nat → Int32} {this : Nat} {x1 : Option Nat} {x2 : Option Nat} {x3 : Int} {x4 : Int} {x5 : Int} {x6 : Int} {x7 : Int} {x8 : Int} {x9 : Int} {h : jH} {x : jH} {r : mm_R} (e : jd_93_l68 this x1 x2 x3 x4 x5 x6 x7 x8 x9 h = some x) (K : (∀ lv : jL, lv 0 = some (jR (some this)) → lv 1 = some (jR x1) → lv 2 = some (jR x2) → lv 3 = some (jI x3) → lv 4 = some (jI x4) → ey (mm_xt L xs) 1 93 135 lv [] x r)) : ∀ lv : jL, lv 0 = some (jR (some this)) → lv 1 = some (jR x1) → lv 2 = some (jR x2) → lv 3 = some (jI x3) → lv 4 = some (jI x4) → lv 5 = some (jI x5) → lv 6 = some (jI x6) → lv 7 = some (jI x7) → lv 8 = some (jI x8) → lv 9 = some (jI x9) → ey (mm_xt L xs) 1 93 68 lv [] h r := by
  unfold jd_93_l68 at e
  exact jlp_ok2 (P := fun s => ∀ lv : jL, lv 0 = some (jR (some this)) → lv 1 = some (jR x1) → lv 2 = some (jR x2) → lv 3 = some (jI x3) → lv 4 = some (jI x4) → lv 5 = some (jI x5) → lv 6 = some (jI x6) → lv 7 = some (jI x7) → lv 8 = some (jI s.1) → lv 9 = some (jI s.2.1) → ey (mm_xt L xs) 1 93 68 lv [] s.2.2 r) (Q := fun x => (∀ lv : jL, lv 0 = some (jR (some this)) → lv 1 = some (jR x1) → lv 2 = some (jR x2) → lv 3 = some (jI x3) → lv 4 = some (jI x4) → ey (mm_xt L xs) 1 93 135 lv [] x r)) (fun s q hq hk => jk_93_s68 hq hk) jfu _ x e K
set_option maxRecDepth 100000 in
theorem jk_93_s3 {L : Nat} {xs : Nat → Int32} {this : Nat} {x1 : Option Nat} {x2 : Option Nat} {x3 : Int} {x4 : Int} {h : jH} {o : ((Int × jH) ⊕ jH)} {r : mm_R} (e : jd_93_s3 this x1 x2 x3 x4 h = some o) (K : jsm (fun s => (∀ lv : jL, lv 0 = some (jR (some this)) → lv 1 = some (jR x1) → lv 2 = some (jR x2) → lv 3 = some (jI x3) → lv 4 = some (jI s.1) → ey (mm_xt L xs) 1 93 3 lv [] s.2 r)) (fun x => (∀ lv : jL, ey (mm_xt L xs) 1 93 141 lv [] x r)) o) : ∀ lv : jL, lv 0 = some (jR (some this)) → lv 1 = some (jR x1) → lv 2 = some (jR x2) → lv 3 = some (jI x3) → lv 4 = some (jI x4) → ey (mm_xt L xs) 1 93 3 lv [] h r := by
  intro lv f0 f1 f2 f3 f4
  unfold jd_93_s3 at e
  refine ey_iload (cd_93 rfl) f4 ?_
  refine ey_iconst (cd_93 rfl) ?_
  by_cases q1 : 3 ≤ (jw x4)
  · rw [if_pos q1] at e
    refine ey_cge (cd_93 rfl) rfl rfl (show jw 3 = 3 from by decide) q1 ?_
    cases e
    exact K lv 
  · rw [if_neg q1] at e
    refine ey_nge (cd_93 rfl) rfl rfl (show jw 3 = 3 from by decide) q1 ?_
    refine ey_iload (cd_93 rfl) f4 ?_
    have K46 : ∀ lv : jL, lv 0 = some (jR (some this)) → lv 1 = some (jR x1) → lv 2 = some (jR x2) → lv 3 = some (jI x3) → lv 4 = some (jI x4) → ey (mm_xt L xs) 1 93 20 lv [jI (if (jw x4) = 0 then 8 else 4)] h r := by
      intro lv g0 g1 g2 g3 g4
      refine ey_istore (cd_93 rfl) mt_93 rfl ?_
      refine ey_aload_n (cd_93 rfl) g1 ?_
      refine ey_iload (cd_93 rfl) (jup_pi (lv := lv) (j := 4) (v := jI (if (jw x4) = 0 then 8 else 4)) (z := x4) g4) ?_
      obtain ⟨a2, e3, e⟩ := jbind e
      refine ey_rs (s0 := [jI x4, jR x1]) (s1 := [jI x4, jR (some a2)]) (by rw [e3]) ?_
      obtain ⟨u4, e5, e⟩ := jbind e
      obtain ⟨v6, e7, e⟩ := jbind e
      refine ey_cv (s0 := [jI x4, jR (some a2)]) (s1 := []) (st' := [jI v6]) (cd_93 rfl) mt_93 mt_96 rfl rfl rfl (jck_s e5) rfl (jsml_s rfl) rfl (ok_96 e7) ?_
      refine ey_istore (cd_93 rfl) mt_93 rfl ?_
      refine ey_aload_n (cd_93 rfl) g1 ?_
      refine ey_iload (cd_93 rfl) (jup_o rfl (jup_pi (lv := lv) (j := 4) (v := jI (if (jw x4) = 0 then 8 else 4)) (z := x4) g4)) ?_
      obtain ⟨a8, e9, e⟩ := jbind e
      refine ey_rs (s0 := [jI x4, jR x1]) (s1 := [jI x4, jR (some a8)]) (by rw [e9]) ?_
      obtain ⟨u10, e11, e⟩ := jbind e
      obtain ⟨v12, e13, e⟩ := jbind e
      refine ey_cv (s0 := [jI x4, jR (some a8)]) (s1 := []) (st' := [jI v12]) (cd_93 rfl) mt_93 mt_98 rfl rfl rfl (jck_s e11) rfl (jsml_s rfl) rfl (ok_98 e13) ?_
      refine ey_aload_n (cd_93 rfl) g0 ?_
      obtain ⟨v14, e15, e⟩ := jbind e
      refine ey_getf_i (cd_93 rfl) mt_93 rfl rfl rfl e15 ?_
      refine ey_iload (cd_93 rfl) (jup_pi (lv := (jup lv 5 (jI (if (jw x4) = 0 then 8 else 4)))) (j := 5) (v := jI v6) (z := (if (jw x4) = 0 then 8 else 4)) rfl) ?_
      refine ey_imul (cd_93 rfl) ?_
      refine ey_iload (cd_93 rfl) rfl ?_
      refine ey_imul (cd_93 rfl) ?_
      refine ey_iadd (cd_93 rfl) ?_
      refine ey_aload_n (cd_93 rfl) g0 ?_
      obtain ⟨v16, e17, e⟩ := jbind e
      refine ey_getf_i (cd_93 rfl) mt_93 rfl rfl rfl e17 ?_
      refine ey_iload (cd_93 rfl) (jup_pi (lv := (jup lv 5 (jI (if (jw x4) = 0 then 8 else 4)))) (j := 5) (v := jI v6) (z := (if (jw x4) = 0 then 8 else 4)) rfl) ?_
      refine ey_imul (cd_93 rfl) ?_
      refine ey_iadd (cd_93 rfl) ?_
      obtain ⟨z18, e19, e⟩ := jbind e
      refine ey_rs (s0 := [jI ((v12 + ((v14 * (if (jw x4) = 0 then 8 else 4)) * v6)) + (v16 * (if (jw x4) = 0 then 8 else 4)))]) (s1 := [jI z18]) (by rw [show ((v12 + ((v14 * (if (jw x4) = 0 then 8 else 4)) * v6)) + (v16 * (if (jw x4) = 0 then 8 else 4))) = z18 from Option.some.inj e19]) ?_
      refine ey_istore (cd_93 rfl) mt_93 rfl ?_
      refine ey_gs (cd_93 rfl) mt_93 rfl rfl ?_
      refine ey_iload (cd_93 rfl) (jup_o rfl (jup_o rfl (jup_pi (lv := lv) (j := 4) (v := jI (if (jw x4) = 0 then 8 else 4)) (z := x4) g4))) ?_
      obtain ⟨v20, e21, e⟩ := jbind e
      refine ey_iast_x (cd_93 rfl) (by decide) e21 ?_
      refine ey_istore (cd_93 rfl) mt_93 rfl ?_
      refine ey_iconst (cd_93 rfl) ?_
      refine ey_istore (cd_93 rfl) mt_93 rfl ?_
      obtain ⟨x44, e45, e⟩ := jbind e
      refine jk_93_l68 e45 ?_ (jup (jup (jup (jup (jup lv 5 (jI (if (jw x4) = 0 then 8 else 4))) 6 (jI v6)) 7 (jI z18)) 8 (jI v20)) 9 (jI 0)) g0 g1 g2 g3 (jup_o rfl (jup_o rfl (jup_o rfl (jup_o rfl (jup_pi (lv := lv) (j := 4) (v := jI (if (jw x4) = 0 then 8 else 4)) (z := x4) g4))))) (jup_o rfl (jup_o rfl (jup_o rfl (jup_pi (lv := (jup lv 5 (jI (if (jw x4) = 0 then 8 else 4)))) (j := 5) (v := jI v6) (z := (if (jw x4) = 0 then 8 else 4)) rfl)))) (jup_o rfl (jup_o rfl (jup_pi (lv := (jup (jup lv 5 (jI (if (jw x4) = 0 then 8 else 4))) 6 (jI v6))) (j := 6) (v := jI z18) (z := v6) rfl))) (jup_o rfl (jup_pi (lv := (jup (jup (jup lv 5 (jI (if (jw x4) = 0 then 8 else 4))) 6 (jI v6)) 7 (jI z18))) (j := 7) (v := jI v20) (z := z18) rfl)) (jup_pi (lv := (jup (jup (jup (jup lv 5 (jI (if (jw x4) = 0 then 8 else 4))) 6 (jI v6)) 7 (jI z18)) 8 (jI v20))) (j := 8) (v := jI 0) (z := v20) rfl) rfl
      intro lv g0 g1 g2 g3 g4
      refine ey_iinc (cd_93 rfl) mt_93 rfl g4 ?_
      refine ey_goto (cd_93 rfl) rfl ?_
      cases e
      exact K (jup lv 4 (jI (x4 + 1))) g0 g1 g2 (jup_pi (lv := lv) (j := 3) (v := jI (x4 + 1)) (z := x3) g3) rfl
    by_cases q47 : (jw x4) = 0
    · refine ey_yne (cd_93 rfl) rfl rfl (fun w => w q47) ?_
      refine ey_bipush (cd_93 rfl) (by decide) ?_
      refine ey_goto (cd_93 rfl) rfl ?_
      exact ey_rs (s0 := [jI 8]) (s1 := [jI (if (jw x4) = 0 then 8 else 4)]) (by rw [show ((if (jw x4) = 0 then 8 else 4) : Int) = 8 from (if_pos q47)]) (K46 lv f0 f1 f2 f3 f4)
    · refine ey_zne (cd_93 rfl) rfl rfl q47 ?_
      refine ey_iconst (cd_93 rfl) ?_
      exact ey_rs (s0 := [jI 4]) (s1 := [jI (if (jw x4) = 0 then 8 else 4)]) (by rw [show ((if (jw x4) = 0 then 8 else 4) : Int) = 4 from (if_neg q47)]) (K46 lv f0 f1 f2 f3 f4)
theorem jk_93_l3 {L : Nat} {xs : Nat → Int32} {this : Nat} {x1 : Option Nat} {x2 : Option Nat} {x3 : Int} {x4 : Int} {h : jH} {x : jH} {r : mm_R} (e : jd_93_l3 this x1 x2 x3 x4 h = some x) (K : (∀ lv : jL, ey (mm_xt L xs) 1 93 141 lv [] x r)) : ∀ lv : jL, lv 0 = some (jR (some this)) → lv 1 = some (jR x1) → lv 2 = some (jR x2) → lv 3 = some (jI x3) → lv 4 = some (jI x4) → ey (mm_xt L xs) 1 93 3 lv [] h r := by
  unfold jd_93_l3 at e
  exact jlp_ok2 (P := fun s => ∀ lv : jL, lv 0 = some (jR (some this)) → lv 1 = some (jR x1) → lv 2 = some (jR x2) → lv 3 = some (jI x3) → lv 4 = some (jI s.1) → ey (mm_xt L xs) 1 93 3 lv [] s.2 r) (Q := fun x => (∀ lv : jL, ey (mm_xt L xs) 1 93 141 lv [] x r)) (fun s q hq hk => jk_93_s3 hq hk) jfu _ x e K
set_option maxRecDepth 100000 in
theorem ok_93 {L : Nat} {xs : Nat → Int32} {this : Nat} {p0 : Option Nat} {p1 : Option Nat} {p2 : Int} {h : jH} {o : jH} (e : jd_93 this p0 p1 p2 h = some o) : mm_Runs (mm_xt L xs) 2 93 ([jR (some this), jR p0, jR p1, jI p2].map jcv) (jaH h) (.inl (none, jaH o)) := by
  refine ey_run0 _ mt_93 (jsl_s rfl) ?_
  unfold jd_93 at e
  refine ey_iconst (cd_93 rfl) ?_
  refine ey_istore (cd_93 rfl) mt_93 rfl ?_
  obtain ⟨x48, e49, e⟩ := jbind e
  refine jk_93_l3 e49 ?_ (jup (jlf (jla 0 [jR (some this), jR p0, jR p1, jI p2])) 4 (jI 0)) rfl rfl rfl (jup_pi (lv := (jlf (jla 0 [jR (some this), jR p0, jR p1, jI p2]))) (j := 3) (v := jI 0) (z := p2) rfl) rfl
  intro lv 
  cases e
  exact ey_retv (cd_93 rfl) mt_93 rfl
theorem cd_16 {pc : Nat} {i : Instr × Nat} (h : mm_lk mm_c16 pc = some i) : mm_cd 16 pc = some i := h
theorem mt_16 : mm_MT 16 = (1, 10, some .int, 6, 0, []) := rfl
set_option maxRecDepth 100000 in
theorem jk_16_s128 {L : Nat} {xs : Nat → Int32} {this : Nat} {x1 : Option Nat} {x4 : Option Nat} {x6 : Int} {x7 : Int} {x8 : Int} {x9 : Int} {h : jH} {o : ((Int × jH) ⊕ jH)} {r : mm_R} (e : jd_16_s128 this x1 x4 x6 x7 x8 x9 h = some o) (K : jsm (fun s => (∀ lv : jL, lv 0 = some (jR (some this)) → lv 1 = some (jR x1) → lv 4 = some (jR x4) → lv 6 = some (jI x6) → lv 7 = some (jI x7) → lv 8 = some (jI x8) → lv 9 = some (jI s.1) → ey (mm_xt L xs) 4 16 128 lv [] s.2 r)) (fun x => (∀ lv : jL, lv 0 = some (jR (some this)) → lv 1 = some (jR x1) → lv 4 = some (jR x4) → lv 6 = some (jI x6) → lv 7 = some (jI x7) → lv 8 = some (jI x8) → ey (mm_xt L xs) 4 16 152 lv [] x r)) o) : ∀ lv : jL, lv 0 = some (jR (some this)) → lv 1 = some (jR x1) → lv 4 = some (jR x4) → lv 6 = some (jI x6) → lv 7 = some (jI x7) → lv 8 = some (jI x8) → lv 9 = some (jI x9) → ey (mm_xt L xs) 4 16 128 lv [] h r := by
  intro lv f0 f1 f4 f6 f7 f8 f9
  unfold jd_16_s128 at e
  refine ey_iload (cd_16 rfl) f9 ?_
  refine ey_aload_n (cd_16 rfl) f0 ?_
  obtain ⟨r72, e73, e⟩ := jbind e
  refine ey_getf_r (cd_16 rfl) mt_16 rfl rfl rfl e73 ?_
  obtain ⟨a74, e75, e⟩ := jbind e
  refine ey_rs (s0 := [jR r72, jI x9]) (s1 := [jR (some a74), jI x9]) (by rw [e75]) ?_
  obtain ⟨u76, e77, e⟩ := jbind e
  obtain ⟨v78, e79, e⟩ := jbind e
  refine ey_cv (s0 := [jR (some a74), jI x9]) (s1 := [jI x9]) (st' := [jI v78, jI x9]) (cd_16 rfl) mt_16 mt_75 rfl rfl rfl (jck_s e77) rfl (jsml_s rfl) rfl (mm_Runs.up (d := 1) (by decide) (ok_75 e79)) ?_
  by_cases q80 : (jw v78) ≤ (jw x9)
  · rw [if_pos q80] at e
    refine ey_cge (cd_16 rfl) rfl rfl rfl q80 ?_
    cases e
    exact K lv f0 f1 f4 f6 f7 f8
  · rw [if_neg q80] at e
    refine ey_nge (cd_16 rfl) rfl rfl rfl q80 ?_
    refine ey_aload_n (cd_16 rfl) f0 ?_
    refine ey_iload (cd_16 rfl) f9 ?_
    obtain ⟨u81, e82, e⟩ := jbind e
    obtain ⟨h83, e84, e⟩ := jbind e
    refine ey_cv (s0 := [jI x9, jR (some this)]) (s1 := []) (st' := []) (cd_16 rfl) mt_16 mt_18 rfl rfl rfl (jck_s e82) rfl (jsml_s rfl) rfl (ok_18 e84) ?_
    refine ey_iinc (cd_16 rfl) mt_16 rfl f9 ?_
    refine ey_goto (cd_16 rfl) rfl ?_
    cases e
    exact K (jup lv 9 (jI (x9 + 1))) f0 f1 f4 f6 f7 (jup_pi (lv := lv) (j := 8) (v := jI (x9 + 1)) (z := x8) f8) rfl
theorem jk_16_l128 {L : Nat} {xs : Nat → Int32} {this : Nat} {x1 : Option Nat} {x4 : Option Nat} {x6 : Int} {x7 : Int} {x8 : Int} {x9 : Int} {h : jH} {x : jH} {r : mm_R} (e : jd_16_l128 this x1 x4 x6 x7 x8 x9 h = some x) (K : (∀ lv : jL, lv 0 = some (jR (some this)) → lv 1 = some (jR x1) → lv 4 = some (jR x4) → lv 6 = some (jI x6) → lv 7 = some (jI x7) → lv 8 = some (jI x8) → ey (mm_xt L xs) 4 16 152 lv [] x r)) : ∀ lv : jL, lv 0 = some (jR (some this)) → lv 1 = some (jR x1) → lv 4 = some (jR x4) → lv 6 = some (jI x6) → lv 7 = some (jI x7) → lv 8 = some (jI x8) → lv 9 = some (jI x9) → ey (mm_xt L xs) 4 16 128 lv [] h r := by
  unfold jd_16_l128 at e
  exact jlp_ok2 (P := fun s => ∀ lv : jL, lv 0 = some (jR (some this)) → lv 1 = some (jR x1) → lv 4 = some (jR x4) → lv 6 = some (jI x6) → lv 7 = some (jI x7) → lv 8 = some (jI x8) → lv 9 = some (jI s.1) → ey (mm_xt L xs) 4 16 128 lv [] s.2 r) (Q := fun x => (∀ lv : jL, lv 0 = some (jR (some this)) → lv 1 = some (jR x1) → lv 4 = some (jR x4) → lv 6 = some (jI x6) → lv 7 = some (jI x7) → lv 8 = some (jI x8) → ey (mm_xt L xs) 4 16 152 lv [] x r)) (fun s q hq hk => jk_16_s128 hq hk) jfu _ x e K
set_option maxRecDepth 100000 in
theorem jk_16_b125 {L : Nat} {xs : Nat → Int32} {this : Nat} {x1 : Option Nat} {x4 : Option Nat} {x6 : Int} {x7 : Int} {x8 : Int} {h : jH} {o : ((Int × jH) ⊕ jH)} {r : mm_R} (e : jd_16_b125 this x1 x4 x6 x7 x8 h = some o) (K : jsm (fun s => (∀ lv : jL, lv 0 = some (jR (some this)) → lv 1 = some (jR x1) → lv 4 = some (jR x4) → lv 6 = some (jI x6) → lv 7 = some (jI x7) → lv 8 = some (jI s.1) → ey (mm_xt L xs) 4 16 46 lv [] s.2 r)) (fun x => (∀ lv : jL, lv 1 = some (jR x1) → ey (mm_xt L xs) 4 16 193 lv [] x r)) o) : ∀ lv : jL, lv 0 = some (jR (some this)) → lv 1 = some (jR x1) → lv 4 = some (jR x4) → lv 6 = some (jI x6) → lv 7 = some (jI x7) → lv 8 = some (jI x8) → ey (mm_xt L xs) 4 16 125 lv [] h r := by
  intro lv f0 f1 f4 f6 f7 f8
  unfold jd_16_b125 at e
  refine ey_iconst (cd_16 rfl) ?_
  refine ey_istore (cd_16 rfl) mt_16 rfl ?_
  obtain ⟨x85, e86, e⟩ := jbind e
  refine jk_16_l128 e86 ?_ (jup lv 9 (jI 0)) f0 f1 f4 f6 f7 (jup_pi (lv := lv) (j := 8) (v := jI 0) (z := x8) f8) rfl
  intro lv g0 g1 g4 g6 g7 g8
  refine ey_aload_n (cd_16 rfl) g0 ?_
  obtain ⟨u87, e88, e⟩ := jbind e
  obtain ⟨h89, e90, e⟩ := jbind e
  refine ey_cv (s0 := [jR (some this)]) (s1 := []) (st' := []) (cd_16 rfl) mt_16 mt_19 rfl rfl rfl (jck_s e88) rfl (jsml_s rfl) rfl (mm_Runs.up (d := 1) (by decide) (ok_19 e90)) ?_
  refine ey_aload_n (cd_16 rfl) g0 ?_
  obtain ⟨r91, e92, e⟩ := jbind e
  refine ey_getf_r (cd_16 rfl) mt_16 rfl rfl rfl e92 ?_
  refine ey_aload_n (cd_16 rfl) g0 ?_
  obtain ⟨r93, e94, e⟩ := jbind e
  refine ey_getf_r (cd_16 rfl) mt_16 rfl rfl rfl e94 ?_
  obtain ⟨a95, e96, e⟩ := jbind e
  refine ey_rs (s0 := [jR r93, jR r91]) (s1 := [jR (some a95), jR r91]) (by rw [e96]) ?_
  obtain ⟨r97, e98, e⟩ := jbind e
  refine ey_getf_r (cd_16 rfl) mt_16 rfl rfl rfl e98 ?_
  refine ey_aload_n (cd_16 rfl) g0 ?_
  obtain ⟨r99, e100, e⟩ := jbind e
  refine ey_getf_r (cd_16 rfl) mt_16 rfl rfl rfl e100 ?_
  obtain ⟨a101, e102, e⟩ := jbind e
  refine ey_rs (s0 := [jR r99, jR r97, jR r91]) (s1 := [jR (some a101), jR r97, jR r91]) (by rw [e102]) ?_
  obtain ⟨r103, e104, e⟩ := jbind e
  refine ey_getf_r (cd_16 rfl) mt_16 rfl rfl rfl e104 ?_
  refine ey_iconst (cd_16 rfl) ?_
  obtain ⟨a105, e106, e⟩ := jbind e
  refine ey_rs (s0 := [jI 1, jR r103, jR r97, jR r91]) (s1 := [jI 1, jR r103, jR r97, jR (some a105)]) (by rw [e106]) ?_
  obtain ⟨u107, e108, e⟩ := jbind e
  obtain ⟨h109, e110, e⟩ := jbind e
  refine ey_cv (s0 := [jI 1, jR r103, jR r97, jR (some a105)]) (s1 := []) (st' := []) (cd_16 rfl) mt_16 mt_93 rfl rfl rfl (jck_s e108) rfl (jsml_s rfl) rfl (mm_Runs.up (d := 2) (by decide) (ok_93 e110)) ?_
  refine ey_aload_n (cd_16 rfl) g0 ?_
  refine ey_aload_n (cd_16 rfl) g1 ?_
  refine ey_aload_n (cd_16 rfl) g0 ?_
  obtain ⟨v111, e112, e⟩ := jbind e
  refine ey_getf_i (cd_16 rfl) mt_16 rfl rfl rfl e112 ?_
  obtain ⟨u113, e114, e⟩ := jbind e
  obtain ⟨h115, e116, e⟩ := jbind e
  refine ey_cv (s0 := [jI v111, jR x1, jR (some this)]) (s1 := []) (st' := []) (cd_16 rfl) mt_16 mt_20 rfl rfl rfl (jck_s e114) rfl (jsml_s rfl) rfl (mm_Runs.up (d := 3) (by decide) (ok_20 e116)) ?_
  refine ey_iinc (cd_16 rfl) mt_16 rfl g8 ?_
  refine ey_goto (cd_16 rfl) rfl ?_
  cases e
  exact K (jup lv 8 (jI (x8 + 1))) g0 g1 g4 g6 (jup_pi (lv := lv) (j := 7) (v := jI (x8 + 1)) (z := x7) g7) rfl
set_option maxRecDepth 100000 in
theorem jk_16_b100 {L : Nat} {xs : Nat → Int32} {this : Nat} {x1 : Option Nat} {x4 : Option Nat} {x6 : Int} {x7 : Int} {x8 : Int} {h : jH} {o : ((Int × jH) ⊕ jH)} {r : mm_R} (e : jd_16_b100 this x1 x4 x6 x7 x8 h = some o) (K : jsm (fun s => (∀ lv : jL, lv 0 = some (jR (some this)) → lv 1 = some (jR x1) → lv 4 = some (jR x4) → lv 6 = some (jI x6) → lv 7 = some (jI x7) → lv 8 = some (jI s.1) → ey (mm_xt L xs) 4 16 46 lv [] s.2 r)) (fun x => (∀ lv : jL, lv 1 = some (jR x1) → ey (mm_xt L xs) 4 16 193 lv [] x r)) o) : ∀ lv : jL, lv 0 = some (jR (some this)) → lv 1 = some (jR x1) → lv 4 = some (jR x4) → lv 6 = some (jI x6) → lv 7 = some (jI x7) → lv 8 = some (jI x8) → ey (mm_xt L xs) 4 16 100 lv [] h r := by
  intro lv f0 f1 f4 f6 f7 f8
  unfold jd_16_b100 at e
  refine ey_aload_n (cd_16 rfl) f0 ?_
  obtain ⟨r55, e56, e⟩ := jbind e
  refine ey_getf_r (cd_16 rfl) mt_16 rfl rfl rfl e56 ?_
  obtain ⟨a57, e58, e⟩ := jbind e
  refine ey_rs (s0 := [jR r55]) (s1 := [jR (some a57)]) (by rw [e58]) ?_
  obtain ⟨v59, e60, e⟩ := jbind e
  refine ey_getf_i (cd_16 rfl) mt_16 rfl rfl rfl e60 ?_
  refine ey_iconst (cd_16 rfl) ?_
  by_cases q61 : (jw v59) = 2
  · rw [if_pos q61] at e
    refine ey_nne (cd_16 rfl) rfl rfl (show jw 2 = 2 from by decide) (fun w => w q61) ?_
    refine ey_aload_n (cd_16 rfl) f0 ?_
    refine ey_aload_n (cd_16 rfl) f0 ?_
    obtain ⟨r62, e63, e⟩ := jbind e
    refine ey_getf_r (cd_16 rfl) mt_16 rfl rfl rfl e63 ?_
    obtain ⟨a64, e65, e⟩ := jbind e
    refine ey_rs (s0 := [jR r62, jR (some this)]) (s1 := [jR (some a64), jR (some this)]) (by rw [e65]) ?_
    obtain ⟨r66, e67, e⟩ := jbind e
    refine ey_getf_r (cd_16 rfl) mt_16 rfl rfl rfl e67 ?_
    refine ey_iconst (cd_16 rfl) ?_
    refine ey_iload (cd_16 rfl) f6 ?_
    obtain ⟨u68, e69, e⟩ := jbind e
    obtain ⟨h70, e71, e⟩ := jbind e
    refine ey_cv (s0 := [jI x6, jI 2, jR r66, jR (some this)]) (s1 := []) (st' := []) (cd_16 rfl) mt_16 mt_17 rfl rfl rfl (jck_s e69) rfl (jsml_s rfl) rfl (mm_Runs.up (d := 3) (by decide) (ok_17 e71)) ?_
    exact jk_16_b125 e K lv f0 f1 f4 f6 f7 f8
  · rw [if_neg q61] at e
    refine ey_cne (cd_16 rfl) rfl rfl (show jw 2 = 2 from by decide) q61 ?_
    exact jk_16_b125 e K lv f0 f1 f4 f6 f7 f8
set_option maxRecDepth 100000 in
theorem jk_16_s46 {L : Nat} {xs : Nat → Int32} {this : Nat} {x1 : Option Nat} {x4 : Option Nat} {x6 : Int} {x7 : Int} {x8 : Int} {h : jH} {o : ((Int × jH) ⊕ jH)} {r : mm_R} (e : jd_16_s46 this x1 x4 x6 x7 x8 h = some o) (K : jsm (fun s => (∀ lv : jL, lv 0 = some (jR (some this)) → lv 1 = some (jR x1) → lv 4 = some (jR x4) → lv 6 = some (jI x6) → lv 7 = some (jI x7) → lv 8 = some (jI s.1) → ey (mm_xt L xs) 4 16 46 lv [] s.2 r)) (fun x => (∀ lv : jL, lv 1 = some (jR x1) → ey (mm_xt L xs) 4 16 193 lv [] x r)) o) : ∀ lv : jL, lv 0 = some (jR (some this)) → lv 1 = some (jR x1) → lv 4 = some (jR x4) → lv 6 = some (jI x6) → lv 7 = some (jI x7) → lv 8 = some (jI x8) → ey (mm_xt L xs) 4 16 46 lv [] h r := by
  intro lv f0 f1 f4 f6 f7 f8
  unfold jd_16_s46 at e
  refine ey_iload (cd_16 rfl) f8 ?_
  refine ey_iload (cd_16 rfl) f7 ?_
  by_cases q29 : (jw x7) ≤ (jw x8)
  · rw [if_pos q29] at e
    refine ey_cge (cd_16 rfl) rfl rfl rfl q29 ?_
    cases e
    exact K lv f1
  · rw [if_neg q29] at e
    refine ey_nge (cd_16 rfl) rfl rfl rfl q29 ?_
    refine ey_aload_n (cd_16 rfl) f0 ?_
    obtain ⟨r30, e31, e⟩ := jbind e
    refine ey_getf_r (cd_16 rfl) mt_16 rfl rfl rfl e31 ?_
    refine ey_iload (cd_16 rfl) f8 ?_
    obtain ⟨a32, e33, e⟩ := jbind e
    refine ey_rs (s0 := [jI x8, jR r30]) (s1 := [jI x8, jR (some a32)]) (by rw [e33]) ?_
    obtain ⟨u34, e35, e⟩ := jbind e
    obtain ⟨h36, e37, e⟩ := jbind e
    refine ey_cv (s0 := [jI x8, jR (some a32)]) (s1 := []) (st' := []) (cd_16 rfl) mt_16 mt_74 rfl rfl rfl (jck_s e35) rfl (jsml_s rfl) rfl (mm_Runs.up (d := 1) (by decide) (ok_74 e37)) ?_
    refine ey_aload_n (cd_16 rfl) f0 ?_
    obtain ⟨r38, e39, e⟩ := jbind e
    refine ey_getf_r (cd_16 rfl) mt_16 rfl rfl rfl e39 ?_
    refine ey_aload (cd_16 rfl) f4 ?_
    refine ey_aload_n (cd_16 rfl) f0 ?_
    obtain ⟨r40, e41, e⟩ := jbind e
    refine ey_getf_r (cd_16 rfl) mt_16 rfl rfl rfl e41 ?_
    refine ey_iconst (cd_16 rfl) ?_
    obtain ⟨a42, e43, e⟩ := jbind e
    refine ey_rs (s0 := [jI 0, jR r40, jR x4, jR r38]) (s1 := [jI 0, jR r40, jR x4, jR (some a42)]) (by rw [e43]) ?_
    obtain ⟨u44, e45, e⟩ := jbind e
    obtain ⟨h46, e47, e⟩ := jbind e
    refine ey_cv (s0 := [jI 0, jR r40, jR x4, jR (some a42)]) (s1 := []) (st' := []) (cd_16 rfl) mt_16 mt_93 rfl rfl rfl (jck_s e45) rfl (jsml_s rfl) rfl (mm_Runs.up (d := 2) (by decide) (ok_93 e47)) ?_
    refine ey_aload_n (cd_16 rfl) f0 ?_
    obtain ⟨r48, e49, e⟩ := jbind e
    refine ey_getf_r (cd_16 rfl) mt_16 rfl rfl rfl e49 ?_
    obtain ⟨a50, e51, e⟩ := jbind e
    refine ey_rs (s0 := [jR r48]) (s1 := [jR (some a50)]) (by rw [e51]) ?_
    obtain ⟨v52, e53, e⟩ := jbind e
    refine ey_getf_i (cd_16 rfl) mt_16 rfl rfl rfl e53 ?_
    by_cases q54 : (jw v52) = 0
    · rw [if_pos q54] at e
      refine ey_zeq (cd_16 rfl) rfl rfl q54 ?_
      exact jk_16_b100 e K lv f0 f1 f4 f6 f7 f8
    · rw [if_neg q54] at e
      refine ey_yeq (cd_16 rfl) rfl rfl q54 ?_
      refine ey_aload_n (cd_16 rfl) f0 ?_
      refine ey_aload_n (cd_16 rfl) f0 ?_
      obtain ⟨r117, e118, e⟩ := jbind e
      refine ey_getf_r (cd_16 rfl) mt_16 rfl rfl rfl e118 ?_
      obtain ⟨a119, e120, e⟩ := jbind e
      refine ey_rs (s0 := [jR r117, jR (some this)]) (s1 := [jR (some a119), jR (some this)]) (by rw [e120]) ?_
      obtain ⟨r121, e122, e⟩ := jbind e
      refine ey_getf_r (cd_16 rfl) mt_16 rfl rfl rfl e122 ?_
      refine ey_iconst (cd_16 rfl) ?_
      refine ey_iload (cd_16 rfl) f6 ?_
      obtain ⟨u123, e124, e⟩ := jbind e
      obtain ⟨h125, e126, e⟩ := jbind e
      refine ey_cv (s0 := [jI x6, jI 0, jR r121, jR (some this)]) (s1 := []) (st' := []) (cd_16 rfl) mt_16 mt_17 rfl rfl rfl (jck_s e124) rfl (jsml_s rfl) rfl (mm_Runs.up (d := 3) (by decide) (ok_17 e126)) ?_
      exact jk_16_b100 e K lv f0 f1 f4 f6 f7 f8
theorem jk_16_l46 {L : Nat} {xs : Nat → Int32} {this : Nat} {x1 : Option Nat} {x4 : Option Nat} {x6 : Int} {x7 : Int} {x8 : Int} {h : jH} {x : jH} {r : mm_R} (e : jd_16_l46 this x1 x4 x6 x7 x8 h = some x) (K : (∀ lv : jL, lv 1 = some (jR x1) → ey (mm_xt L xs) 4 16 193 lv [] x r)) : ∀ lv : jL, lv 0 = some (jR (some this)) → lv 1 = some (jR x1) → lv 4 = some (jR x4) → lv 6 = some (jI x6) → lv 7 = some (jI x7) → lv 8 = some (jI x8) → ey (mm_xt L xs) 4 16 46 lv [] h r := by
  unfold jd_16_l46 at e
  exact jlp_ok2 (P := fun s => ∀ lv : jL, lv 0 = some (jR (some this)) → lv 1 = some (jR x1) → lv 4 = some (jR x4) → lv 6 = some (jI x6) → lv 7 = some (jI x7) → lv 8 = some (jI s.1) → ey (mm_xt L xs) 4 16 46 lv [] s.2 r) (Q := fun x => (∀ lv : jL, lv 1 = some (jR x1) → ey (mm_xt L xs) 4 16 193 lv [] x r)) (fun s q hq hk => jk_16_s46 hq hk) jfu _ x e K
set_option maxRecDepth 100000 in
theorem ok_16 {L : Nat} {xs : Nat → Int32} {this : Nat} {p0 : Option Nat} {p1 : Option Nat} {p2 : Int} {p3 : Option Nat} {p4 : Int} {p5 : Int} {h : jH} {o : (Int × jH)} (e : jd_16 this p0 p1 p2 p3 p4 p5 h = some o) : mm_Runs (mm_xt L xs) 5 16 ([jR (some this), jR p0, jR p1, jI p2, jR p3, jI p4, jI p5].map jcv) (jaH h) (.inl (some (jcv (jI o.1)), jaH o.2)) := by
  refine ey_run0 _ mt_16 (jsl_s rfl) ?_
  unfold jd_16 at e
  refine ey_aload_n (cd_16 rfl) rfl ?_
  obtain ⟨a1, e2, e⟩ := jbind e
  refine ey_rs (s0 := [jR p0]) (s1 := [jR (some a1)]) (by rw [e2]) ?_
  obtain ⟨u3, e4, e⟩ := jbind e
  obtain ⟨h5, e6, e⟩ := jbind e
  refine ey_cv (s0 := [jR (some a1)]) (s1 := []) (st' := []) (cd_16 rfl) mt_16 mt_6 rfl rfl rfl (jck_s e4) rfl (jsml_s rfl) rfl (mm_Runs.up (d := 1) (by decide) (ok_6 e6)) ?_
  refine ey_aload_n (cd_16 rfl) rfl ?_
  obtain ⟨r7, e8, e⟩ := jbind e
  refine ey_getf_r (cd_16 rfl) mt_16 rfl rfl rfl e8 ?_
  refine ey_aload_n (cd_16 rfl) rfl ?_
  refine ey_aload_n (cd_16 rfl) rfl ?_
  refine ey_iload_n (cd_16 rfl) rfl ?_
  refine ey_iconst (cd_16 rfl) ?_
  obtain ⟨a9, e10, e⟩ := jbind e
  refine ey_rs (s0 := [jI 0, jI p2, jR p1, jR p1, jR r7]) (s1 := [jI 0, jI p2, jR p1, jR p1, jR (some a9)]) (by rw [e10]) ?_
  obtain ⟨u11, e12, e⟩ := jbind e
  obtain ⟨h13, e14, e⟩ := jbind e
  refine ey_cv (s0 := [jI 0, jI p2, jR p1, jR p1, jR (some a9)]) (s1 := []) (st' := []) (cd_16 rfl) mt_16 mt_73 rfl rfl rfl (jck_s e12) rfl (jsml_s rfl) rfl (mm_Runs.up (d := 2) (by decide) (ok_73 e14)) ?_
  refine ey_aload_n (cd_16 rfl) rfl ?_
  obtain ⟨r15, e16, e⟩ := jbind e
  refine ey_getf_r (cd_16 rfl) mt_16 rfl rfl rfl e16 ?_
  refine ey_iload (cd_16 rfl) rfl ?_
  obtain ⟨a17, e18, e⟩ := jbind e
  refine ey_rs (s0 := [jI p4, jR r15]) (s1 := [jI p4, jR (some a17)]) (by rw [e18]) ?_
  obtain ⟨h19, e20, e⟩ := jbind e
  refine ey_putf_i (cd_16 rfl) mt_16 rfl rfl rfl e20 ?_
  refine ey_aload (cd_16 rfl) rfl ?_
  obtain ⟨a21, e22, e⟩ := jbind e
  refine ey_rs (s0 := [jR p3]) (s1 := [jR (some a21)]) (by rw [e22]) ?_
  obtain ⟨v23, e24, e⟩ := jbind e
  refine ey_getf_i (cd_16 rfl) mt_16 rfl rfl rfl e24 ?_
  refine ey_bipush (cd_16 rfl) (by decide) ?_
  refine ey_idiv (cd_16 rfl) (by decide) ?_
  refine ey_aload (cd_16 rfl) rfl ?_
  obtain ⟨a25, e26, e⟩ := jbind e
  refine ey_rs (s0 := [jR p3, jI (jdiv v23 8)]) (s1 := [jR (some a25), jI (jdiv v23 8)]) (by rw [e26]) ?_
  obtain ⟨v27, e28, e⟩ := jbind e
  refine ey_getf_i (cd_16 rfl) mt_16 rfl rfl rfl e28 ?_
  refine ey_bipush (cd_16 rfl) (by decide) ?_
  refine ey_idiv (cd_16 rfl) (by decide) ?_
  refine ey_imul (cd_16 rfl) ?_
  refine ey_istore (cd_16 rfl) mt_16 rfl ?_
  refine ey_iconst (cd_16 rfl) ?_
  refine ey_istore (cd_16 rfl) mt_16 rfl ?_
  obtain ⟨x127, e128, e⟩ := jbind e
  refine jk_16_l46 e128 ?_ (jup (jup (jlf (jla 0 [jR (some this), jR p0, jR p1, jI p2, jR p3, jI p4, jI p5])) 7 (jI ((jdiv v23 8) * (jdiv v27 8)))) 8 (jI 0)) rfl rfl rfl (jup_o rfl (jup_pi (lv := (jlf (jla 0 [jR (some this), jR p0, jR p1, jI p2, jR p3, jI p4, jI p5]))) (j := 6) (v := jI ((jdiv v23 8) * (jdiv v27 8))) (z := p5) rfl)) (jup_pi (lv := (jup (jlf (jla 0 [jR (some this), jR p0, jR p1, jI p2, jR p3, jI p4, jI p5])) 7 (jI ((jdiv v23 8) * (jdiv v27 8))))) (j := 7) (v := jI 0) (z := ((jdiv v23 8) * (jdiv v27 8))) rfl) rfl
  intro lv g1
  refine ey_aload_n (cd_16 rfl) g1 ?_
  obtain ⟨a129, e130, e⟩ := jbind e
  refine ey_rs (s0 := [jR p0]) (s1 := [jR (some a129)]) (by rw [e130]) ?_
  obtain ⟨u131, e132, e⟩ := jbind e
  obtain ⟨v133, e134, e⟩ := jbind e
  refine ey_cv (s0 := [jR (some a129)]) (s1 := []) (st' := [jI v133]) (cd_16 rfl) mt_16 mt_10 rfl rfl rfl (jck_s e132) rfl (jsml_s rfl) rfl (mm_Runs.up (d := 1) (by decide) (ok_10 e134)) ?_
  cases e
  exact ey_reti (cd_16 rfl) mt_16 rfl
theorem cd_21 {pc : Nat} {i : Instr × Nat} (h : mm_lk mm_c21 pc = some i) : mm_cd 21 pc = some i := h
theorem mt_21 : mm_MT 21 = (2, 1, none, 0, 2, []) := rfl
set_option maxRecDepth 100000 in
theorem ok_21 {L : Nat} {xs : Nat → Int32} {this : Nat}  {h : jH} {o : jH} (e : jd_21 this  h = some o) : mm_Runs (mm_xt L xs) 1 21 ([jR (some this)].map jcv) (jaH h) (.inl (none, jaH o)) := by
  refine ey_run0 _ mt_21 (jsl_s rfl) ?_
  unfold jd_21 at e
  refine ey_aload_n (cd_21 rfl) rfl ?_
  refine ey_oini (cd_21 rfl) mt_21 rfl (jsml_s rfl) ?_
  refine ey_aload_n (cd_21 rfl) rfl ?_
  refine ey_iconst (cd_21 rfl) ?_
  obtain ⟨h1, e2, e⟩ := jbind e
  refine ey_putf_i (cd_21 rfl) mt_21 rfl rfl rfl e2 ?_
  refine ey_aload_n (cd_21 rfl) rfl ?_
  refine ey_bipush (cd_21 rfl) (by decide) ?_
  obtain ⟨h3, e4, e⟩ := jbind e
  refine ey_putf_i (cd_21 rfl) mt_21 rfl rfl rfl e4 ?_
  refine ey_aload_n (cd_21 rfl) rfl ?_
  refine ey_bipush (cd_21 rfl) (by decide) ?_
  obtain ⟨h5, e6, e⟩ := jbind e
  refine ey_putf_i (cd_21 rfl) mt_21 rfl rfl rfl e6 ?_
  refine ey_aload_n (cd_21 rfl) rfl ?_
  refine ey_iconst (cd_21 rfl) ?_
  obtain ⟨h7, e8, e⟩ := jbind e
  refine ey_putf_i (cd_21 rfl) mt_21 rfl rfl rfl e8 ?_
  refine ey_aload_n (cd_21 rfl) rfl ?_
  refine ey_iconst (cd_21 rfl) ?_
  obtain ⟨h9, e10, e⟩ := jbind e
  refine ey_putf_i (cd_21 rfl) mt_21 rfl rfl rfl e10 ?_
  refine ey_aload_n (cd_21 rfl) rfl ?_
  refine ey_null (cd_21 rfl) ?_
  obtain ⟨h11, e12, e⟩ := jbind e
  refine ey_putf_r (cd_21 rfl) mt_21 rfl rfl rfl e12 ?_
  refine ey_aload_n (cd_21 rfl) rfl ?_
  refine ey_iconst (cd_21 rfl) ?_
  obtain ⟨h13, e14, e⟩ := jbind e
  refine ey_putf_i (cd_21 rfl) mt_21 rfl rfl rfl e14 ?_
  refine ey_aload_n (cd_21 rfl) rfl ?_
  refine ey_bipush (cd_21 rfl) (by decide) ?_
  obtain ⟨n15, e16, e⟩ := jbind e
  refine ey_newarr (cd_21 rfl) (by decide) e16 ?_
  obtain ⟨h17, e18, e⟩ := jbind e
  refine ey_putf_r (cd_21 rfl) mt_21 rfl rfl rfl e18 ?_
  refine ey_aload_n (cd_21 rfl) rfl ?_
  refine ey_bipush (cd_21 rfl) (by decide) ?_
  obtain ⟨n19, e20, e⟩ := jbind e
  refine ey_newarr (cd_21 rfl) (by decide) e20 ?_
  obtain ⟨h21, e22, e⟩ := jbind e
  refine ey_putf_r (cd_21 rfl) mt_21 rfl rfl rfl e22 ?_
  refine ey_aload_n (cd_21 rfl) rfl ?_
  refine ey_bipush (cd_21 rfl) (by decide) ?_
  obtain ⟨n23, e24, e⟩ := jbind e
  refine ey_newarr (cd_21 rfl) (by decide) e24 ?_
  obtain ⟨h25, e26, e⟩ := jbind e
  refine ey_putf_r (cd_21 rfl) mt_21 rfl rfl rfl e26 ?_
  refine ey_aload_n (cd_21 rfl) rfl ?_
  refine ey_bipush (cd_21 rfl) (by decide) ?_
  obtain ⟨n27, e28, e⟩ := jbind e
  refine ey_newarr (cd_21 rfl) (by decide) e28 ?_
  obtain ⟨h29, e30, e⟩ := jbind e
  refine ey_putf_r (cd_21 rfl) mt_21 rfl rfl rfl e30 ?_
  refine ey_aload_n (cd_21 rfl) rfl ?_
  refine ey_bipush (cd_21 rfl) (by decide) ?_
  obtain ⟨n31, e32, e⟩ := jbind e
  refine ey_newarr (cd_21 rfl) (by decide) e32 ?_
  obtain ⟨h33, e34, e⟩ := jbind e
  refine ey_putf_r (cd_21 rfl) mt_21 rfl rfl rfl e34 ?_
  refine ey_aload_n (cd_21 rfl) rfl ?_
  refine ey_bipush (cd_21 rfl) (by decide) ?_
  obtain ⟨n35, e36, e⟩ := jbind e
  refine ey_newarr (cd_21 rfl) (by decide) e36 ?_
  obtain ⟨h37, e38, e⟩ := jbind e
  refine ey_putf_r (cd_21 rfl) mt_21 rfl rfl rfl e38 ?_
  refine ey_aload_n (cd_21 rfl) rfl ?_
  refine ey_bipush (cd_21 rfl) (by decide) ?_
  obtain ⟨n39, e40, e⟩ := jbind e
  refine ey_newarr (cd_21 rfl) (by decide) e40 ?_
  obtain ⟨h41, e42, e⟩ := jbind e
  refine ey_putf_r (cd_21 rfl) mt_21 rfl rfl rfl e42 ?_
  refine ey_aload_n (cd_21 rfl) rfl ?_
  refine ey_bipush (cd_21 rfl) (by decide) ?_
  obtain ⟨n43, e44, e⟩ := jbind e
  refine ey_newarr (cd_21 rfl) (by decide) e44 ?_
  obtain ⟨h45, e46, e⟩ := jbind e
  refine ey_putf_r (cd_21 rfl) mt_21 rfl rfl rfl e46 ?_
  refine ey_aload_n (cd_21 rfl) rfl ?_
  refine ey_bipush (cd_21 rfl) (by decide) ?_
  obtain ⟨n47, e48, e⟩ := jbind e
  refine ey_anew (cd_21 rfl) mt_21 rfl (by decide) e48 ?_
  obtain ⟨h49, e50, e⟩ := jbind e
  refine ey_putf_r (cd_21 rfl) mt_21 rfl rfl rfl e50 ?_
  refine ey_aload_n (cd_21 rfl) rfl ?_
  refine ey_bipush (cd_21 rfl) (by decide) ?_
  obtain ⟨n51, e52, e⟩ := jbind e
  refine ey_newarr (cd_21 rfl) (by decide) e52 ?_
  obtain ⟨h53, e54, e⟩ := jbind e
  refine ey_putf_r (cd_21 rfl) mt_21 rfl rfl rfl e54 ?_
  refine ey_aload_n (cd_21 rfl) rfl ?_
  refine ey_bipush (cd_21 rfl) (by decide) ?_
  obtain ⟨n55, e56, e⟩ := jbind e
  refine ey_newarr (cd_21 rfl) (by decide) e56 ?_
  obtain ⟨h57, e58, e⟩ := jbind e
  refine ey_putf_r (cd_21 rfl) mt_21 rfl rfl rfl e58 ?_
  refine ey_aload_n (cd_21 rfl) rfl ?_
  refine ey_sipush (cd_21 rfl) (by decide) ?_
  obtain ⟨n59, e60, e⟩ := jbind e
  refine ey_newarr (cd_21 rfl) (by decide) e60 ?_
  obtain ⟨h61, e62, e⟩ := jbind e
  refine ey_putf_r (cd_21 rfl) mt_21 rfl rfl rfl e62 ?_
  cases e
  exact ey_retv (cd_21 rfl) mt_21 rfl
theorem cd_22 {pc : Nat} {i : Instr × Nat} (h : mm_lk mm_c22 pc = some i) : mm_cd 22 pc = some i := h
theorem mt_22 : mm_MT 22 = (2, 2, none, 0, 0, []) := rfl
set_option maxRecDepth 100000 in
theorem jk_22_s7 {L : Nat} {xs : Nat → Int32} {this : Nat} {x1 : Int} {h : jH} {o : ((Int × jH) ⊕ jH)} {r : mm_R} (e : jd_22_s7 this x1 h = some o) (K : jsm (fun s => (∀ lv : jL, lv 0 = some (jR (some this)) → lv 1 = some (jI s.1) → ey (mm_xt L xs) 0 22 7 lv [] s.2 r)) (fun x => (∀ lv : jL, ey (mm_xt L xs) 0 22 26 lv [] x r)) o) : ∀ lv : jL, lv 0 = some (jR (some this)) → lv 1 = some (jI x1) → ey (mm_xt L xs) 0 22 7 lv [] h r := by
  intro lv f0 f1
  unfold jd_22_s7 at e
  refine ey_iload_n (cd_22 rfl) f1 ?_
  refine ey_bipush (cd_22 rfl) (by decide) ?_
  by_cases q3 : 12 ≤ (jw x1)
  · rw [if_pos q3] at e
    refine ey_cge (cd_22 rfl) rfl rfl (show jw 12 = 12 from by decide) q3 ?_
    cases e
    exact K lv 
  · rw [if_neg q3] at e
    refine ey_nge (cd_22 rfl) rfl rfl (show jw 12 = 12 from by decide) q3 ?_
    refine ey_aload_n (cd_22 rfl) f0 ?_
    obtain ⟨r4, e5, e⟩ := jbind e
    refine ey_getf_r (cd_22 rfl) mt_22 rfl rfl rfl e5 ?_
    refine ey_iload_n (cd_22 rfl) f1 ?_
    refine ey_iconst (cd_22 rfl) ?_
    obtain ⟨a6, e7, e⟩ := jbind e
    refine ey_rs (s0 := [jI 0, jI x1, jR r4]) (s1 := [jI 0, jI x1, jR (some a6)]) (by rw [e7]) ?_
    obtain ⟨h8, e9, e⟩ := jbind e
    refine ey_zast (cd_22 rfl) e9 ?_
    refine ey_iinc (cd_22 rfl) mt_22 rfl f1 ?_
    refine ey_goto (cd_22 rfl) rfl ?_
    cases e
    exact K (jup lv 1 (jI (x1 + 1))) (jup_pr (lv := lv) (j := 0) (v := jI (x1 + 1)) (z := (some this)) f0) rfl
theorem jk_22_l7 {L : Nat} {xs : Nat → Int32} {this : Nat} {x1 : Int} {h : jH} {x : jH} {r : mm_R} (e : jd_22_l7 this x1 h = some x) (K : (∀ lv : jL, ey (mm_xt L xs) 0 22 26 lv [] x r)) : ∀ lv : jL, lv 0 = some (jR (some this)) → lv 1 = some (jI x1) → ey (mm_xt L xs) 0 22 7 lv [] h r := by
  unfold jd_22_l7 at e
  exact jlp_ok2 (P := fun s => ∀ lv : jL, lv 0 = some (jR (some this)) → lv 1 = some (jI s.1) → ey (mm_xt L xs) 0 22 7 lv [] s.2 r) (Q := fun x => (∀ lv : jL, ey (mm_xt L xs) 0 22 26 lv [] x r)) (fun s q hq hk => jk_22_s7 hq hk) jfu _ x e K
set_option maxRecDepth 100000 in
theorem ok_22 {L : Nat} {xs : Nat → Int32} {this : Nat}  {h : jH} {o : jH} (e : jd_22 this  h = some o) : mm_Runs (mm_xt L xs) 1 22 ([jR (some this)].map jcv) (jaH h) (.inl (none, jaH o)) := by
  refine ey_run0 _ mt_22 (jsl_s rfl) ?_
  unfold jd_22 at e
  refine ey_aload_n (cd_22 rfl) rfl ?_
  refine ey_iconst (cd_22 rfl) ?_
  obtain ⟨h1, e2, e⟩ := jbind e
  refine ey_putf_i (cd_22 rfl) mt_22 rfl rfl rfl e2 ?_
  refine ey_iconst (cd_22 rfl) ?_
  refine ey_istore_n (cd_22 rfl) mt_22 rfl ?_
  obtain ⟨x10, e11, e⟩ := jbind e
  refine jk_22_l7 e11 ?_ (jup (jlf (jla 0 [jR (some this)])) 1 (jI 0)) (jup_pr (lv := (jlf (jla 0 [jR (some this)]))) (j := 0) (v := jI 0) (z := (some this)) rfl) rfl
  intro lv 
  cases e
  exact ey_retv (cd_22 rfl) mt_22 rfl
