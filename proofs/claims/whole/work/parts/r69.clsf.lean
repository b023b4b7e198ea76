theorem cd_68 {pc : Nat} {i : Instr × Nat} (h : mm_lk mm_c68 pc = some i) : mm_cd 68 pc = some i := h
theorem mt_68 : mm_MT 68 = (4, 5, none, 4, 0, []) := rfl
set_option maxRecDepth 100000 in
theorem ok_68 {L : Nat} {xs : Nat → Int32} {this : Nat} {p0 : Option Nat} {p1 : Option Nat} {p2 : Int} {p3 : Option Nat} {h : jH} {o : jH} (e : jd_68 this p0 p1 p2 p3 h = some o) : mm_Runs (mm_xt L xs) 4 68 ([jR (some this), jR p0, jR p1, jI p2, jR p3].map jcv) (jaH h) (.inl (none, jaH o)) := by
  refine ey_run0 _ mt_68 (jsl_s rfl) ?_
  unfold jd_68 at e
  refine ey_aload_n (cd_68 rfl) rfl ?_
  refine ey_iconst (cd_68 rfl) ?_
  obtain ⟨h1, e2, e⟩ := jbind e
  refine ey_putf_i (cd_68 rfl) mt_68 rfl rfl rfl e2 ?_
  refine ey_aload_n (cd_68 rfl) rfl ?_
  refine ey_aload (cd_68 rfl) rfl ?_
  obtain ⟨h3, e4, e⟩ := jbind e
  refine ey_putf_r (cd_68 rfl) mt_68 rfl rfl rfl e4 ?_
  refine ey_aload_n (cd_68 rfl) rfl ?_
  refine ey_iconst (cd_68 rfl) ?_
  refine ey_aload_n (cd_68 rfl) rfl ?_
  obtain ⟨a5, e6, e⟩ := jbind e
  refine ey_rs (s0 := [jR p1, jI 0, jR p0]) (s1 := [jR (some a5), jI 0, jR p0]) (by rw [e6]) ?_
  obtain ⟨r7, e8, e⟩ := jbind e
  refine ey_getf_r (cd_68 rfl) mt_68 rfl rfl rfl e8 ?_
  refine ey_iconst (cd_68 rfl) ?_
  obtain ⟨a9, e10, e⟩ := jbind e
  refine ey_rs (s0 := [jI 0, jR r7, jI 0, jR p0]) (s1 := [jI 0, jR (some a9), jI 0, jR p0]) (by rw [e10]) ?_
  obtain ⟨r11, e12, e⟩ := jbind e
  refine ey_aald (cd_68 rfl) (by decide) e12 ?_
  refine ey_aload_n (cd_68 rfl) rfl ?_
  obtain ⟨a13, e14, e⟩ := jbind e
  refine ey_rs (s0 := [jR p1, jR r11, jI 0, jR p0]) (s1 := [jR (some a13), jR r11, jI 0, jR p0]) (by rw [e14]) ?_
  obtain ⟨v15, e16, e⟩ := jbind e
  refine ey_getf_i (cd_68 rfl) mt_68 rfl rfl rfl e16 ?_
  refine ey_iload_n (cd_68 rfl) rfl ?_
  obtain ⟨a17, e18, e⟩ := jbind e
  refine ey_rs (s0 := [jI p2, jI v15, jR r11, jI 0, jR p0]) (s1 := [jI p2, jI v15, jR r11, jI 0, jR (some a17)]) (by rw [e18]) ?_
  obtain ⟨u19, e20, e⟩ := jbind e
  obtain ⟨h21, e22, e⟩ := jbind e
  refine ey_cv (s0 := [jI p2, jI v15, jR r11, jI 0, jR (some a17)]) (s1 := []) (st' := []) (cd_68 rfl) mt_68 mt_26 rfl rfl rfl (jck_s e20) rfl (jsml_s rfl) rfl (ok_26 e22) ?_
  refine ey_aload_n (cd_68 rfl) rfl ?_
  refine ey_aload_n (cd_68 rfl) rfl ?_
  obtain ⟨a23, e24, e⟩ := jbind e
  refine ey_rs (s0 := [jR p1, jR p0]) (s1 := [jR (some a23), jR p0]) (by rw [e24]) ?_
  obtain ⟨v25, e26, e⟩ := jbind e
  refine ey_getf_i (cd_68 rfl) mt_68 rfl rfl rfl e26 ?_
  refine ey_aload_n (cd_68 rfl) rfl ?_
  obtain ⟨a27, e28, e⟩ := jbind e
  refine ey_rs (s0 := [jR p1, jI v25, jR p0]) (s1 := [jR (some a27), jI v25, jR p0]) (by rw [e28]) ?_
  obtain ⟨v29, e30, e⟩ := jbind e
  refine ey_getf_i (cd_68 rfl) mt_68 rfl rfl rfl e30 ?_
  refine ey_iconst (cd_68 rfl) ?_
  refine ey_iload_n (cd_68 rfl) rfl ?_
  obtain ⟨a31, e32, e⟩ := jbind e
  refine ey_rs (s0 := [jI p2, jI 0, jI v29, jI v25, jR p0]) (s1 := [jI p2, jI 0, jI v29, jI v25, jR (some a31)]) (by rw [e32]) ?_
  obtain ⟨u33, e34, e⟩ := jbind e
  obtain ⟨h35, e36, e⟩ := jbind e
  refine ey_cv (s0 := [jI p2, jI 0, jI v29, jI v25, jR (some a31)]) (s1 := []) (st' := []) (cd_68 rfl) mt_68 mt_28 rfl rfl rfl (jck_s e34) rfl (jsml_s rfl) rfl (mm_Runs.up (d := 2) (by decide) (ok_28 e36)) ?_
  cases e
  exact ey_retv (cd_68 rfl) mt_68 rfl
theorem cd_70 {pc : Nat} {i : Instr × Nat} (h : mm_lk mm_c70 pc = some i) : mm_cd 70 pc = some i := h
theorem mt_70 : mm_MT 70 = (4, 8, none, 4, 0, []) := rfl
set_option maxRecDepth 100000 in
theorem jk_70_s9 {L : Nat} {xs : Nat → Int32} {this : Nat} {x1 : Option Nat} {x2 : Option Nat} {x3 : Int} {x4 : Int} {x5 : Int} {x6 : Int} {h : jH} {o : ((Int × jH) ⊕ jH)} {r : mm_R} (e : jd_70_s9 this x1 x2 x3 x4 x5 x6 h = some o) (K : jsm (fun s => (∀ lv : jL, lv 0 = some (jR (some this)) → lv 1 = some (jR x1) → lv 2 = some (jR x2) → lv 3 = some (jI x3) → lv 4 = some (jI x4) → lv 5 = some (jI x5) → lv 6 = some (jI s.1) → ey (mm_xt L xs) 3 70 9 lv [] s.2 r)) (fun x => (∀ lv : jL, ey (mm_xt L xs) 3 70 123 lv [] x r)) o) : ∀ lv : jL, lv 0 = some (jR (some this)) → lv 1 = some (jR x1) → lv 2 = some (jR x2) → lv 3 = some (jI x3) → lv 4 = some (jI x4) → lv 5 = some (jI x5) → lv 6 = some (jI x6) → ey (mm_xt L xs) 3 70 9 lv [] h r := by
  intro lv f0 f1 f2 f3 f4 f5 f6
  unfold jd_70_s9 at e
  refine ey_iload (cd_70 rfl) f6 ?_
  refine ey_iload (cd_70 rfl) f4 ?_
  by_cases q3 : (jw x4) ≤ (jw x6)
  · rw [if_pos q3] at e
    refine ey_cge (cd_70 rfl) rfl rfl rfl q3 ?_
    cases e
    exact K lv 
  · rw [if_neg q3] at e
    refine ey_nge (cd_70 rfl) rfl rfl rfl q3 ?_
    refine ey_aload_n (cd_70 rfl) f1 ?_
    obtain ⟨a4, e5, e⟩ := jbind e
    refine ey_rs (s0 := [jR x1]) (s1 := [jR (some a4)]) (by rw [e5]) ?_
    obtain ⟨r6, e7, e⟩ := jbind e
    refine ey_getf_r (cd_70 rfl) mt_70 rfl rfl rfl e7 ?_
    refine ey_aload_n (cd_70 rfl) f0 ?_
    obtain ⟨v8, e9, e⟩ := jbind e
    refine ey_getf_i (cd_70 rfl) mt_70 rfl rfl rfl e9 ?_
    refine ey_aload_n (cd_70 rfl) f2 ?_
    obtain ⟨a10, e11, e⟩ := jbind e
    refine ey_rs (s0 := [jR x2, jI v8, jR r6]) (s1 := [jR (some a10), jI v8, jR r6]) (by rw [e11]) ?_
    obtain ⟨r12, e13, e⟩ := jbind e
    refine ey_getf_r (cd_70 rfl) mt_70 rfl rfl rfl e13 ?_
    refine ey_iload (cd_70 rfl) f6 ?_
    obtain ⟨a14, e15, e⟩ := jbind e
    refine ey_rs (s0 := [jI x6, jR r12, jI v8, jR r6]) (s1 := [jI x6, jR (some a14), jI v8, jR r6]) (by rw [e15]) ?_
    obtain ⟨v16, e17, e⟩ := jbind e
    refine ey_iald (cd_70 rfl) e17 ?_
    obtain ⟨a18, e19, e⟩ := jbind e
    refine ey_rs (s0 := [jI v16, jI v8, jR r6]) (s1 := [jI v16, jI v8, jR (some a18)]) (by rw [e19]) ?_
    obtain ⟨h20, e21, e⟩ := jbind e
    refine ey_iast (cd_70 rfl) e21 ?_
    refine ey_aload_n (cd_70 rfl) f1 ?_
    obtain ⟨a22, e23, e⟩ := jbind e
    refine ey_rs (s0 := [jR x1]) (s1 := [jR (some a22)]) (by rw [e23]) ?_
    obtain ⟨r24, e25, e⟩ := jbind e
    refine ey_getf_r (cd_70 rfl) mt_70 rfl rfl rfl e25 ?_
    refine ey_aload_n (cd_70 rfl) f0 ?_
    obtain ⟨v26, e27, e⟩ := jbind e
    refine ey_getf_i (cd_70 rfl) mt_70 rfl rfl rfl e27 ?_
    refine ey_iload (cd_70 rfl) f5 ?_
    refine ey_aload_n (cd_70 rfl) f2 ?_
    obtain ⟨a28, e29, e⟩ := jbind e
    refine ey_rs (s0 := [jR x2, jI x5, jI v26, jR r24]) (s1 := [jR (some a28), jI x5, jI v26, jR r24]) (by rw [e29]) ?_
    obtain ⟨r30, e31, e⟩ := jbind e
    refine ey_getf_r (cd_70 rfl) mt_70 rfl rfl rfl e31 ?_
    refine ey_iload (cd_70 rfl) f6 ?_
    obtain ⟨a32, e33, e⟩ := jbind e
    refine ey_rs (s0 := [jI x6, jR r30, jI x5, jI v26, jR r24]) (s1 := [jI x6, jR (some a32), jI x5, jI v26, jR r24]) (by rw [e33]) ?_
    obtain ⟨v34, e35, e⟩ := jbind e
    refine ey_iald (cd_70 rfl) e35 ?_
    refine ey_iadd (cd_70 rfl) ?_
    refine ey_iload_n (cd_70 rfl) f3 ?_
    refine ey_isub (cd_70 rfl) ?_
    obtain ⟨a36, e37, e⟩ := jbind e
    refine ey_rs (s0 := [jI ((x5 + v34) - x3), jI v26, jR r24]) (s1 := [jI ((x5 + v34) - x3), jI v26, jR (some a36)]) (by rw [e37]) ?_
    obtain ⟨h38, e39, e⟩ := jbind e
    refine ey_iast (cd_70 rfl) e39 ?_
    refine ey_aload_n (cd_70 rfl) f1 ?_
    obtain ⟨a40, e41, e⟩ := jbind e
    refine ey_rs (s0 := [jR x1]) (s1 := [jR (some a40)]) (by rw [e41]) ?_
    obtain ⟨r42, e43, e⟩ := jbind e
    refine ey_getf_r (cd_70 rfl) mt_70 rfl rfl rfl e43 ?_
    refine ey_aload_n (cd_70 rfl) f1 ?_
    obtain ⟨a44, e45, e⟩ := jbind e
    refine ey_rs (s0 := [jR x1, jR r42]) (s1 := [jR (some a44), jR r42]) (by rw [e45]) ?_
    obtain ⟨r46, e47, e⟩ := jbind e
    refine ey_getf_r (cd_70 rfl) mt_70 rfl rfl rfl e47 ?_
    refine ey_aload_n (cd_70 rfl) f0 ?_
    obtain ⟨v48, e49, e⟩ := jbind e
    refine ey_getf_i (cd_70 rfl) mt_70 rfl rfl rfl e49 ?_
    obtain ⟨a50, e51, e⟩ := jbind e
    refine ey_rs (s0 := [jI v48, jR r46, jR r42]) (s1 := [jI v48, jR (some a50), jR r42]) (by rw [e51]) ?_
    obtain ⟨v52, e53, e⟩ := jbind e
    refine ey_iald (cd_70 rfl) e53 ?_
    refine ey_iconst (cd_70 rfl) ?_
    obtain ⟨a54, e55, e⟩ := jbind e
    refine ey_rs (s0 := [jI 1, jI v52, jR r42]) (s1 := [jI 1, jI v52, jR (some a54)]) (by rw [e55]) ?_
    obtain ⟨h56, e57, e⟩ := jbind e
    refine ey_zast (cd_70 rfl) e57 ?_
    refine ey_aload_n (cd_70 rfl) f2 ?_
    obtain ⟨a58, e59, e⟩ := jbind e
    refine ey_rs (s0 := [jR x2]) (s1 := [jR (some a58)]) (by rw [e59]) ?_
    obtain ⟨r60, e61, e⟩ := jbind e
    refine ey_getf_r (cd_70 rfl) mt_70 rfl rfl rfl e61 ?_
    refine ey_iload (cd_70 rfl) f6 ?_
    obtain ⟨a62, e63, e⟩ := jbind e
    refine ey_rs (s0 := [jI x6, jR r60]) (s1 := [jI x6, jR (some a62)]) (by rw [e63]) ?_
    obtain ⟨v64, e65, e⟩ := jbind e
    refine ey_iald (cd_70 rfl) e65 ?_
    refine ey_iconst (cd_70 rfl) ?_
    refine ey_iadd (cd_70 rfl) ?_
    refine ey_istore (cd_70 rfl) mt_70 rfl ?_
    refine ey_aload_n (cd_70 rfl) f1 ?_
    refine ey_aload_n (cd_70 rfl) f0 ?_
    obtain ⟨v66, e67, e⟩ := jbind e
    refine ey_getf_i (cd_70 rfl) mt_70 rfl rfl rfl e67 ?_
    refine ey_aload_n (cd_70 rfl) f2 ?_
    obtain ⟨a68, e69, e⟩ := jbind e
    refine ey_rs (s0 := [jR x2, jI v66, jR x1]) (s1 := [jR (some a68), jI v66, jR x1]) (by rw [e69]) ?_
    obtain ⟨r70, e71, e⟩ := jbind e
    refine ey_getf_r (cd_70 rfl) mt_70 rfl rfl rfl e71 ?_
    refine ey_iload (cd_70 rfl) (jup_pi (lv := lv) (j := 6) (v := jI (v64 + 5)) (z := x6) f6) ?_
    obtain ⟨a72, e73, e⟩ := jbind e
    refine ey_rs (s0 := [jI x6, jR r70, jI v66, jR x1]) (s1 := [jI x6, jR (some a72), jI v66, jR x1]) (by rw [e73]) ?_
    obtain ⟨v74, e75, e⟩ := jbind e
    refine ey_iald (cd_70 rfl) e75 ?_
    refine ey_aload_n (cd_70 rfl) f2 ?_
    obtain ⟨a76, e77, e⟩ := jbind e
    refine ey_rs (s0 := [jR x2, jI v74, jI v66, jR x1]) (s1 := [jR (some a76), jI v74, jI v66, jR x1]) (by rw [e77]) ?_
    obtain ⟨r78, e79, e⟩ := jbind e
    refine ey_getf_r (cd_70 rfl) mt_70 rfl rfl rfl e79 ?_
    refine ey_iload (cd_70 rfl) rfl ?_
    refine ey_aload_n (cd_70 rfl) f2 ?_
    obtain ⟨a80, e81, e⟩ := jbind e
    refine ey_rs (s0 := [jR x2, jI (v64 + 5), jR r78, jI v74, jI v66, jR x1]) (s1 := [jR (some a80), jI (v64 + 5), jR r78, jI v74, jI v66, jR x1]) (by rw [e81]) ?_
    obtain ⟨r82, e83, e⟩ := jbind e
    refine ey_getf_r (cd_70 rfl) mt_70 rfl rfl rfl e83 ?_
    refine ey_iload (cd_70 rfl) (jup_pi (lv := lv) (j := 6) (v := jI (v64 + 5)) (z := x6) f6) ?_
    obtain ⟨a84, e85, e⟩ := jbind e
    refine ey_rs (s0 := [jI x6, jR r82, jI (v64 + 5), jR r78, jI v74, jI v66, jR x1]) (s1 := [jI x6, jR (some a84), jI (v64 + 5), jR r78, jI v74, jI v66, jR x1]) (by rw [e85]) ?_
    obtain ⟨v86, e87, e⟩ := jbind e
    refine ey_iald (cd_70 rfl) e87 ?_
    obtain ⟨a88, e89, e⟩ := jbind e
    refine ey_rs (s0 := [jI v86, jI (v64 + 5), jR r78, jI v74, jI v66, jR x1]) (s1 := [jI v86, jI (v64 + 5), jR r78, jI v74, jI v66, jR (some a88)]) (by rw [e89]) ?_
    obtain ⟨u90, e91, e⟩ := jbind e
    obtain ⟨h92, e93, e⟩ := jbind e
    refine ey_cv (s0 := [jI v86, jI (v64 + 5), jR r78, jI v74, jI v66, jR (some a88)]) (s1 := []) (st' := []) (cd_70 rfl) mt_70 mt_27 rfl rfl rfl (jck_s e91) rfl (jsml_s rfl) rfl (ok_27 e93) ?_
    refine ey_aload_n (cd_70 rfl) f0 ?_
    refine ey_dup (cd_70 rfl) rfl ?_
    obtain ⟨v94, e95, e⟩ := jbind e
    refine ey_getf_i (cd_70 rfl) mt_70 rfl rfl rfl e95 ?_
    refine ey_iconst (cd_70 rfl) ?_
    refine ey_iadd (cd_70 rfl) ?_
    obtain ⟨h96, e97, e⟩ := jbind e
    refine ey_putf_i (cd_70 rfl) mt_70 rfl rfl rfl e97 ?_
    refine ey_iinc (cd_70 rfl) mt_70 rfl (jup_pi (lv := lv) (j := 6) (v := jI (v64 + 5)) (z := x6) f6) ?_
    refine ey_goto (cd_70 rfl) rfl ?_
    cases e
    exact K (jup (jup lv 7 (jI (v64 + 5))) 6 (jI (x6 + 1))) f0 f1 f2 f3 f4 (jup_pi (lv := (jup lv 7 (jI (v64 + 5)))) (j := 5) (v := jI (x6 + 1)) (z := x5) f5) rfl
theorem jk_70_l9 {L : Nat} {xs : Nat → Int32} {this : Nat} {x1 : Option Nat} {x2 : Option Nat} {x3 : Int} {x4 : Int} {x5 : Int} {x6 : Int} {h : jH} {x : jH} {r : mm_R} (e : jd_70_l9 this x1 x2 x3 x4 x5 x6 h = some x) (K : (∀ lv : jL, ey (mm_xt L xs) 3 70 123 lv [] x r)) : ∀ lv : jL, lv 0 = some (jR (some this)) → lv 1 = some (jR x1) → lv 2 = some (jR x2) → lv 3 = some (jI x3) → lv 4 = some (jI x4) → lv 5 = some (jI x5) → lv 6 = some (jI x6) → ey (mm_xt L xs) 3 70 9 lv [] h r := by
  unfold jd_70_l9 at e
  exact jlp_ok2 (P := fun s => ∀ lv : jL, lv 0 = some (jR (some this)) → lv 1 = some (jR x1) → lv 2 = some (jR x2) → lv 3 = some (jI x3) → lv 4 = some (jI x4) → lv 5 = some (jI x5) → lv 6 = some (jI s.1) → ey (mm_xt L xs) 3 70 9 lv [] s.2 r) (Q := fun x => (∀ lv : jL, ey (mm_xt L xs) 3 70 123 lv [] x r)) (fun s q hq hk => jk_70_s9 hq hk) jfu _ x e K
set_option maxRecDepth 100000 in
theorem ok_70 {L : Nat} {xs : Nat → Int32} {this : Nat} {p0 : Option Nat} {p1 : Option Nat} {p2 : Int} {p3 : Int} {h : jH} {o : jH} (e : jd_70 this p0 p1 p2 p3 h = some o) : mm_Runs (mm_xt L xs) 4 70 ([jR (some this), jR p0, jR p1, jI p2, jI p3].map jcv) (jaH h) (.inl (none, jaH o)) := by
  refine ey_run0 _ mt_70 (jsl_s rfl) ?_
  unfold jd_70 at e
  refine ey_aload_n (cd_70 rfl) rfl ?_
  obtain ⟨v1, e2, e⟩ := jbind e
  refine ey_getf_i (cd_70 rfl) mt_70 rfl rfl rfl e2 ?_
  refine ey_istore (cd_70 rfl) mt_70 rfl ?_
  refine ey_iload_n (cd_70 rfl) rfl ?_
  refine ey_istore (cd_70 rfl) mt_70 rfl ?_
  obtain ⟨x98, e99, e⟩ := jbind e
  refine jk_70_l9 e99 ?_ (jup (jup (jlf (jla 0 [jR (some this), jR p0, jR p1, jI p2, jI p3])) 5 (jI v1)) 6 (jI p2)) rfl rfl rfl rfl (jup_o rfl (jup_pi (lv := (jlf (jla 0 [jR (some this), jR p0, jR p1, jI p2, jI p3]))) (j := 4) (v := jI v1) (z := p3) rfl)) (jup_pi (lv := (jup (jlf (jla 0 [jR (some this), jR p0, jR p1, jI p2, jI p3])) 5 (jI v1))) (j := 5) (v := jI p2) (z := v1) rfl) rfl
  intro lv 
  cases e
  exact ey_retv (cd_70 rfl) mt_70 rfl
theorem cd_71 {pc : Nat} {i : Instr × Nat} (h : mm_lk mm_c71 pc = some i) : mm_cd 71 pc = some i := h
theorem mt_71 : mm_MT 71 = (4, 10, some .boolean, 5, 0, []) := rfl
set_option maxRecDepth 100000 in
theorem jk_71_s29 {L : Nat} {xs : Nat → Int32} {this : Nat} {x1 : Option Nat} {x2 : Option Nat} {x3 : Int} {x4 : Int} {x5 : Int} {x6 : Int} {x7 : Int} {h : jH} {o : ((Int × jH) ⊕ (jH ⊕ jH))} {r : mm_R} (e : jd_71_s29 this x1 x2 x3 x4 x5 x6 x7 h = some o) (K : jsm (fun s => (∀ lv : jL, lv 0 = some (jR (some this)) → lv 1 = some (jR x1) → lv 2 = some (jR x2) → lv 3 = some (jI x3) → lv 4 = some (jI x4) → lv 5 = some (jI x5) → lv 6 = some (jI x6) → lv 7 = some (jI s.1) → ey (mm_xt L xs) 5 71 29 lv [] s.2 r)) (fun x => (jsm (fun y => (∀ lv : jL, ey (mm_xt L xs) 5 71 98 lv [] y r)) (fun z => (∀ lv : jL, ey (mm_xt L xs) 5 71 136 lv [] z r)) x)) o) : ∀ lv : jL, lv 0 = some (jR (some this)) → lv 1 = some (jR x1) → lv 2 = some (jR x2) → lv 3 = some (jI x3) → lv 4 = some (jI x4) → lv 5 = some (jI x5) → lv 6 = some (jI x6) → lv 7 = some (jI x7) → ey (mm_xt L xs) 5 71 29 lv [] h r := by
  intro lv f0 f1 f2 f3 f4 f5 f6 f7
  unfold jd_71_s29 at e
  refine ey_iload (cd_71 rfl) f7 ?_
  refine ey_iload (cd_71 rfl) f4 ?_
  by_cases q11 : (jw x4) < (jw x7)
  · rw [if_pos q11] at e
    refine ey_cgt (cd_71 rfl) rfl rfl rfl q11 ?_
    cases e
    exact K lv 
  · rw [if_neg q11] at e
    refine ey_ngt (cd_71 rfl) rfl rfl rfl q11 ?_
    refine ey_aload_n (cd_71 rfl) f2 ?_
    obtain ⟨a12, e13, e⟩ := jbind e
    refine ey_rs (s0 := [jR x2]) (s1 := [jR (some a12)]) (by rw [e13]) ?_
    obtain ⟨r14, e15, e⟩ := jbind e
    refine ey_getf_r (cd_71 rfl) mt_71 rfl rfl rfl e15 ?_
    refine ey_aload_n (cd_71 rfl) f2 ?_
    obtain ⟨a16, e17, e⟩ := jbind e
    refine ey_rs (s0 := [jR x2, jR r14]) (s1 := [jR (some a16), jR r14]) (by rw [e17]) ?_
    obtain ⟨r18, e19, e⟩ := jbind e
    refine ey_getf_r (cd_71 rfl) mt_71 rfl rfl rfl e19 ?_
    refine ey_iload_n (cd_71 rfl) f3 ?_
    refine ey_aload_n (cd_71 rfl) f1 ?_
    obtain ⟨a20, e21, e⟩ := jbind e
    refine ey_rs (s0 := [jR x1, jI x3, jR r18, jR r14]) (s1 := [jR (some a20), jI x3, jR r18, jR r14]) (by rw [e21]) ?_
    obtain ⟨r22, e23, e⟩ := jbind e
    refine ey_getf_r (cd_71 rfl) mt_71 rfl rfl rfl e23 ?_
    refine ey_aload_n (cd_71 rfl) f0 ?_
    obtain ⟨v24, e25, e⟩ := jbind e
    refine ey_getf_i (cd_71 rfl) mt_71 rfl rfl rfl e25 ?_
    obtain ⟨a26, e27, e⟩ := jbind e
    refine ey_rs (s0 := [jI v24, jR r22, jI x3, jR r18, jR r14]) (s1 := [jI v24, jR (some a26), jI x3, jR r18, jR r14]) (by rw [e27]) ?_
    obtain ⟨v28, e29, e⟩ := jbind e
    refine ey_iald (cd_71 rfl) e29 ?_
    refine ey_iadd (cd_71 rfl) ?_
    refine ey_iload (cd_71 rfl) f6 ?_
    refine ey_isub (cd_71 rfl) ?_
    obtain ⟨a30, e31, e⟩ := jbind e
    refine ey_rs (s0 := [jI ((x3 + v28) - x6), jR r18, jR r14]) (s1 := [jI ((x3 + v28) - x6), jR (some a30), jR r14]) (by rw [e31]) ?_
    obtain ⟨v32, e33, e⟩ := jbind e
    refine ey_iald (cd_71 rfl) e33 ?_
    obtain ⟨a34, e35, e⟩ := jbind e
    refine ey_rs (s0 := [jI v32, jR r14]) (s1 := [jI v32, jR (some a34)]) (by rw [e35]) ?_
    obtain ⟨r36, e37, e⟩ := jbind e
    refine ey_aald (cd_71 rfl) (by decide) e37 ?_
    refine ey_astore (cd_71 rfl) mt_71 rfl ?_
    refine ey_aload_n (cd_71 rfl) f0 ?_
    obtain ⟨r38, e39, e⟩ := jbind e
    refine ey_getf_r (cd_71 rfl) mt_71 rfl rfl rfl e39 ?_
    refine ey_aload_n (cd_71 rfl) f0 ?_
    obtain ⟨r40, e41, e⟩ := jbind e
    refine ey_getf_r (cd_71 rfl) mt_71 rfl rfl rfl e41 ?_
    refine ey_aload_n (cd_71 rfl) f1 ?_
    refine ey_aload_n (cd_71 rfl) f0 ?_
    obtain ⟨v42, e43, e⟩ := jbind e
    refine ey_getf_i (cd_71 rfl) mt_71 rfl rfl rfl e43 ?_
    refine ey_aload (cd_71 rfl) rfl ?_
    refine ey_iload (cd_71 rfl) f5 ?_
    refine ey_aload_n (cd_71 rfl) f0 ?_
    obtain ⟨r44, e45, e⟩ := jbind e
    refine ey_getf_r (cd_71 rfl) mt_71 rfl rfl rfl e45 ?_
    refine ey_iconst (cd_71 rfl) ?_
    obtain ⟨a46, e47, e⟩ := jbind e
    refine ey_rs (s0 := [jI 3, jR r44, jI x5, jR r36, jI v42, jR x1, jR r40, jR r38]) (s1 := [jI 3, jR (some a46), jI x5, jR r36, jI v42, jR x1, jR r40, jR r38]) (by rw [e47]) ?_
    obtain ⟨v48, e49, e⟩ := jbind e
    refine ey_iald (cd_71 rfl) e49 ?_
    obtain ⟨a50, e51, e⟩ := jbind e
    refine ey_rs (s0 := [jI v48, jI x5, jR r36, jI v42, jR x1, jR r40, jR r38]) (s1 := [jI v48, jI x5, jR r36, jI v42, jR x1, jR r40, jR (some a50)]) (by rw [e51]) ?_
    obtain ⟨u52, e53, e⟩ := jbind e
    obtain ⟨q54, e55, e⟩ := jbind e
    refine ey_cv (s0 := [jI v48, jI x5, jR r36, jI v42, jR x1, jR r40, jR (some a50)]) (s1 := []) (st' := [jI q54.1]) (cd_71 rfl) mt_71 mt_16 rfl rfl rfl (jck_s e53) rfl (jsml_s rfl) rfl (ok_16 e55) ?_
    refine ey_istore (cd_71 rfl) mt_71 rfl ?_
    refine ey_iload (cd_71 rfl) rfl ?_
    refine ey_sipush (cd_71 rfl) (by decide) ?_
    by_cases q56 : (jw q54.1) ≤ 2000
    · rw [if_pos q56] at e
      refine ey_cle (cd_71 rfl) rfl rfl (show jw 2000 = 2000 from by decide) q56 ?_
      refine ey_aload_n (cd_71 rfl) f1 ?_
      refine ey_aload_n (cd_71 rfl) f0 ?_
      obtain ⟨v57, e58, e⟩ := jbind e
      refine ey_getf_i (cd_71 rfl) mt_71 rfl rfl rfl e58 ?_
      refine ey_iload (cd_71 rfl) f5 ?_
      refine ey_aload_n (cd_71 rfl) f0 ?_
      obtain ⟨r59, e60, e⟩ := jbind e
      refine ey_getf_r (cd_71 rfl) mt_71 rfl rfl rfl e60 ?_
      obtain ⟨a61, e62, e⟩ := jbind e
      refine ey_rs (s0 := [jR r59, jI x5, jI v57, jR x1]) (s1 := [jR (some a61), jI x5, jI v57, jR x1]) (by rw [e62]) ?_
      obtain ⟨r63, e64, e⟩ := jbind e
      refine ey_getf_r (cd_71 rfl) mt_71 rfl rfl rfl e64 ?_
      refine ey_iconst (cd_71 rfl) ?_
      refine ey_iload (cd_71 rfl) rfl ?_
      obtain ⟨a65, e66, e⟩ := jbind e
      refine ey_rs (s0 := [jI q54.1, jI 0, jR r63, jI x5, jI v57, jR x1]) (s1 := [jI q54.1, jI 0, jR r63, jI x5, jI v57, jR (some a65)]) (by rw [e66]) ?_
      obtain ⟨u67, e68, e⟩ := jbind e
      obtain ⟨h69, e70, e⟩ := jbind e
      refine ey_cv (s0 := [jI q54.1, jI 0, jR r63, jI x5, jI v57, jR (some a65)]) (s1 := []) (st' := []) (cd_71 rfl) mt_71 mt_27 rfl rfl rfl (jck_s e68) rfl (jsml_s rfl) rfl (mm_Runs.up (d := 3) (by decide) (ok_27 e70)) ?_
      refine ey_aload_n (cd_71 rfl) f0 ?_
      refine ey_dup (cd_71 rfl) rfl ?_
      obtain ⟨v71, e72, e⟩ := jbind e
      refine ey_getf_i (cd_71 rfl) mt_71 rfl rfl rfl e72 ?_
      refine ey_iconst (cd_71 rfl) ?_
      refine ey_iadd (cd_71 rfl) ?_
      obtain ⟨h73, e74, e⟩ := jbind e
      refine ey_putf_i (cd_71 rfl) mt_71 rfl rfl rfl e74 ?_
      refine ey_iinc (cd_71 rfl) mt_71 rfl (jup_o rfl (jup_pi (lv := lv) (j := 7) (v := jR r36) (z := x7) f7)) ?_
      refine ey_goto (cd_71 rfl) rfl ?_
      cases e
      exact K (jup (jup (jup lv 8 (jR r36)) 9 (jI q54.1)) 7 (jI (x7 + 1))) f0 f1 f2 f3 f4 f5 (jup_pi (lv := (jup (jup lv 8 (jR r36)) 9 (jI q54.1))) (j := 6) (v := jI (x7 + 1)) (z := x6) f6) rfl
    · rw [if_neg q56] at e
      refine ey_nle (cd_71 rfl) rfl rfl (show jw 2000 = 2000 from by decide) q56 ?_
      cases e
      exact K (jup (jup lv 8 (jR r36)) 9 (jI q54.1)) 
theorem jk_71_l29 {L : Nat} {xs : Nat → Int32} {this : Nat} {x1 : Option Nat} {x2 : Option Nat} {x3 : Int} {x4 : Int} {x5 : Int} {x6 : Int} {x7 : Int} {h : jH} {x : (jH ⊕ jH)} {r : mm_R} (e : jd_71_l29 this x1 x2 x3 x4 x5 x6 x7 h = some x) (K : (jsm (fun y => (∀ lv : jL, ey (mm_xt L xs) 5 71 98 lv [] y r)) (fun z => (∀ lv : jL, ey (mm_xt L xs) 5 71 136 lv [] z r)) x)) : ∀ lv : jL, lv 0 = some (jR (some this)) → lv 1 = some (jR x1) → lv 2 = some (jR x2) → lv 3 = some (jI x3) → lv 4 = some (jI x4) → lv 5 = some (jI x5) → lv 6 = some (jI x6) → lv 7 = some (jI x7) → ey (mm_xt L xs) 5 71 29 lv [] h r := by
  unfold jd_71_l29 at e
  exact jlp_ok2 (P := fun s => ∀ lv : jL, lv 0 = some (jR (some this)) → lv 1 = some (jR x1) → lv 2 = some (jR x2) → lv 3 = some (jI x3) → lv 4 = some (jI x4) → lv 5 = some (jI x5) → lv 6 = some (jI x6) → lv 7 = some (jI s.1) → ey (mm_xt L xs) 5 71 29 lv [] s.2 r) (Q := fun x => (jsm (fun y => (∀ lv : jL, ey (mm_xt L xs) 5 71 98 lv [] y r)) (fun z => (∀ lv : jL, ey (mm_xt L xs) 5 71 136 lv [] z r)) x)) (fun s q hq hk => jk_71_s29 hq hk) jfu _ x e K
set_option maxRecDepth 100000 in
theorem ok_71 {L : Nat} {xs : Nat → Int32} {this : Nat} {p0 : Option Nat} {p1 : Option Nat} {p2 : Int} {p3 : Int} {p4 : Int} {h : jH} {o : (Int × jH)} (e : jd_71 this p0 p1 p2 p3 p4 h = some o) : mm_Runs (mm_xt L xs) 6 71 ([jR (some this), jR p0, jR p1, jI p2, jI p3, jI p4].map jcv) (jaH h) (.inl (some (jcv (jI o.1)), jaH o.2)) := by
  refine ey_run0 _ mt_71 (jsl_s rfl) ?_
  unfold jd_71 at e
  refine ey_aload_n (cd_71 rfl) rfl ?_
  obtain ⟨v1, e2, e⟩ := jbind e
  refine ey_getf_i (cd_71 rfl) mt_71 rfl rfl rfl e2 ?_
  refine ey_istore (cd_71 rfl) mt_71 rfl ?_
  refine ey_aload_n (cd_71 rfl) rfl ?_
  refine ey_iload (cd_71 rfl) rfl ?_
  refine ey_iload (cd_71 rfl) rfl ?_
  refine ey_iload (cd_71 rfl) rfl ?_
  refine ey_iload_n (cd_71 rfl) rfl ?_
  refine ey_isub (cd_71 rfl) ?_
  refine ey_iconst (cd_71 rfl) ?_
  refine ey_iadd (cd_71 rfl) ?_
  refine ey_aload_n (cd_71 rfl) rfl ?_
  obtain ⟨r3, e4, e⟩ := jbind e
  refine ey_getf_r (cd_71 rfl) mt_71 rfl rfl rfl e4 ?_
  refine ey_iconst (cd_71 rfl) ?_
  obtain ⟨a5, e6, e⟩ := jbind e
  refine ey_rs (s0 := [jI 2, jR r3, jI ((p3 - p2) + 1), jI v1, jI v1, jR p0]) (s1 := [jI 2, jR (some a5), jI ((p3 - p2) + 1), jI v1, jI v1, jR p0]) (by rw [e6]) ?_
  obtain ⟨v7, e8, e⟩ := jbind e
  refine ey_iald (cd_71 rfl) e8 ?_
  obtain ⟨h9, e10, e⟩ := jbind e
  refine ey_cs (s0 := [jI v7, jI ((p3 - p2) + 1), jI v1, jI v1, jR p0]) (s1 := []) (st' := []) (cd_71 rfl) mt_71 mt_64 rfl (by decide) rfl rfl (jsml_s rfl) rfl (mm_Runs.up (d := 1) (by decide) (ok_64 e10)) ?_
  refine ey_iload_n (cd_71 rfl) rfl ?_
  refine ey_istore (cd_71 rfl) mt_71 rfl ?_
  obtain ⟨x75, e76, e⟩ := jbind e
  refine jk_71_l29 e76 ?_ (jup (jup (jlf (jla 0 [jR (some this), jR p0, jR p1, jI p2, jI p3, jI p4])) 6 (jI v1)) 7 (jI p2)) rfl rfl rfl rfl rfl (jup_o rfl (jup_pi (lv := (jlf (jla 0 [jR (some this), jR p0, jR p1, jI p2, jI p3, jI p4]))) (j := 5) (v := jI v1) (z := p4) rfl)) (jup_pi (lv := (jup (jlf (jla 0 [jR (some this), jR p0, jR p1, jI p2, jI p3, jI p4])) 6 (jI v1))) (j := 6) (v := jI p2) (z := v1) rfl) rfl
  cases x75 with
  | inl y77 =>
    replace e : (some (0, y77) : Option (Int × jH)) = some o := e
    intro lv 
    refine ey_iconst (cd_71 rfl) ?_
    cases e
    exact ey_retz (cd_71 rfl) mt_71 rfl (Or.inl rfl)
  | inr y78 =>
    replace e : (some (1, y78) : Option (Int × jH)) = some o := e
    intro lv 
    refine ey_iconst (cd_71 rfl) ?_
    cases e
    exact ey_retz (cd_71 rfl) mt_71 rfl (Or.inr rfl)
theorem cd_69 {pc : Nat} {i : Instr × Nat} (h : mm_lk mm_c69 pc = some i) : mm_cd 69 pc = some i := h
theorem mt_69 : mm_MT 69 = (4, 9, some .boolean, 4, 0, []) := rfl
set_option maxRecDepth 100000 in
theorem jk_69_b110 {L : Nat} {xs : Nat → Int32} {this : Nat} {x1 : Option Nat} {x2 : Option Nat} {x3 : Int} {x4 : Int} {x5 : Int} {h : jH} {o : ((Int × jH) ⊕ (jH ⊕ jH))} {r : mm_R} (e : jd_69_b110 this x1 x2 x3 x4 x5 h = some o) (K : jsm (fun s => (∀ lv : jL, lv 0 = some (jR (some this)) → lv 1 = some (jR x1) → lv 2 = some (jR x2) → lv 3 = some (jI x3) → lv 4 = some (jI x4) → lv 5 = some (jI s.1) → ey (mm_xt L xs) 6 69 3 lv [] s.2 r)) (fun x => (jsm (fun y => (∀ lv : jL, ey (mm_xt L xs) 6 69 108 lv [] y r)) (fun z => (∀ lv : jL, ey (mm_xt L xs) 6 69 116 lv [] z r)) x)) o) : ∀ lv : jL, lv 0 = some (jR (some this)) → lv 1 = some (jR x1) → lv 2 = some (jR x2) → lv 3 = some (jI x3) → lv 4 = some (jI x4) → lv 5 = some (jI x5) → ey (mm_xt L xs) 6 69 110 lv [] h r := by
  intro lv f0 f1 f2 f3 f4 f5
  unfold jd_69_b110 at e
  refine ey_iinc (cd_69 rfl) mt_69 rfl f5 ?_
  refine ey_goto (cd_69 rfl) rfl ?_
  cases e
  exact K (jup lv 5 (jI (x5 + 1))) f0 f1 f2 f3 (jup_pi (lv := lv) (j := 4) (v := jI (x5 + 1)) (z := x4) f4) rfl
set_option maxRecDepth 100000 in
theorem jk_69_b81 {L : Nat} {xs : Nat → Int32} {this : Nat} {x1 : Option Nat} {x2 : Option Nat} {x3 : Int} {x4 : Int} {x5 : Int} {x7 : Int} {x8 : Int} {h : jH} {o : ((Int × jH) ⊕ (jH ⊕ jH))} {r : mm_R} (e : jd_69_b81 this x1 x2 x3 x4 x5 x7 x8 h = some o) (K : jsm (fun s => (∀ lv : jL, lv 0 = some (jR (some this)) → lv 1 = some (jR x1) → lv 2 = some (jR x2) → lv 3 = some (jI x3) → lv 4 = some (jI x4) → lv 5 = some (jI s.1) → ey (mm_xt L xs) 6 69 3 lv [] s.2 r)) (fun x => (jsm (fun y => (∀ lv : jL, ey (mm_xt L xs) 6 69 108 lv [] y r)) (fun z => (∀ lv : jL, ey (mm_xt L xs) 6 69 116 lv [] z r)) x)) o) : ∀ lv : jL, lv 0 = some (jR (some this)) → lv 1 = some (jR x1) → lv 2 = some (jR x2) → lv 3 = some (jI x3) → lv 4 = some (jI x4) → lv 5 = some (jI x5) → lv 7 = some (jI x7) → lv 8 = some (jI x8) → ey (mm_xt L xs) 6 69 81 lv [] h r := by
  intro lv f0 f1 f2 f3 f4 f5 f7 f8
  unfold jd_69_b81 at e
  refine ey_iload (cd_69 rfl) f7 ?_
  refine ey_iload (cd_69 rfl) f8 ?_
  by_cases q31 : (jw x8) < (jw x7)
  · rw [if_pos q31] at e
    refine ey_cgt (cd_69 rfl) rfl rfl rfl q31 ?_
    exact jk_69_b110 e K lv f0 f1 f2 f3 f4 f5
  · rw [if_neg q31] at e
    refine ey_ngt (cd_69 rfl) rfl rfl rfl q31 ?_
    refine ey_aload_n (cd_69 rfl) f0 ?_
    refine ey_aload_n (cd_69 rfl) f1 ?_
    refine ey_aload_n (cd_69 rfl) f2 ?_
    refine ey_iload (cd_69 rfl) f7 ?_
    refine ey_iload (cd_69 rfl) f8 ?_
    refine ey_aload_n (cd_69 rfl) f2 ?_
    obtain ⟨a32, e33, e⟩ := jbind e
    refine ey_rs (s0 := [jR x2, jI x8, jI x7, jR x2, jR x1, jR (some this)]) (s1 := [jR (some a32), jI x8, jI x7, jR x2, jR x1, jR (some this)]) (by rw [e33]) ?_
    obtain ⟨r34, e35, e⟩ := jbind e
    refine ey_getf_r (cd_69 rfl) mt_69 rfl rfl rfl e35 ?_
    refine ey_iload (cd_69 rfl) f5 ?_
    obtain ⟨a36, e37, e⟩ := jbind e
    refine ey_rs (s0 := [jI x5, jR r34, jI x8, jI x7, jR x2, jR x1, jR (some this)]) (s1 := [jI x5, jR (some a36), jI x8, jI x7, jR x2, jR x1, jR (some this)]) (by rw [e37]) ?_
    obtain ⟨v38, e39, e⟩ := jbind e
    refine ey_iald (cd_69 rfl) e39 ?_
    obtain ⟨u40, e41, e⟩ := jbind e
    obtain ⟨q42, e43, e⟩ := jbind e
    refine ey_cv (s0 := [jI v38, jI x8, jI x7, jR x2, jR x1, jR (some this)]) (s1 := []) (st' := [jI q42.1]) (cd_69 rfl) mt_69 mt_71 rfl rfl rfl (jck_s e41) rfl (jsml_s rfl) rfl (ok_71 e43) ?_
    by_cases q44 : (jw q42.1) = 0
    · rw [if_pos q44] at e
      refine ey_yne (cd_69 rfl) rfl rfl (fun w => w q44) ?_
      cases e
      exact K lv 
    · rw [if_neg q44] at e
      refine ey_zne (cd_69 rfl) rfl rfl q44 ?_
      exact jk_69_b110 e K lv f0 f1 f2 f3 f4 f5
set_option maxRecDepth 100000 in
theorem jk_69_s3 {L : Nat} {xs : Nat → Int32} {this : Nat} {x1 : Option Nat} {x2 : Option Nat} {x3 : Int} {x4 : Int} {x5 : Int} {h : jH} {o : ((Int × jH) ⊕ (jH ⊕ jH))} {r : mm_R} (e : jd_69_s3 this x1 x2 x3 x4 x5 h = some o) (K : jsm (fun s => (∀ lv : jL, lv 0 = some (jR (some this)) → lv 1 = some (jR x1) → lv 2 = some (jR x2) → lv 3 = some (jI x3) → lv 4 = some (jI x4) → lv 5 = some (jI s.1) → ey (mm_xt L xs) 6 69 3 lv [] s.2 r)) (fun x => (jsm (fun y => (∀ lv : jL, ey (mm_xt L xs) 6 69 108 lv [] y r)) (fun z => (∀ lv : jL, ey (mm_xt L xs) 6 69 116 lv [] z r)) x)) o) : ∀ lv : jL, lv 0 = some (jR (some this)) → lv 1 = some (jR x1) → lv 2 = some (jR x2) → lv 3 = some (jI x3) → lv 4 = some (jI x4) → lv 5 = some (jI x5) → ey (mm_xt L xs) 6 69 3 lv [] h r := by
  intro lv f0 f1 f2 f3 f4 f5
  unfold jd_69_s3 at e
  refine ey_iload (cd_69 rfl) f5 ?_
  refine ey_aload_n (cd_69 rfl) f2 ?_
  obtain ⟨a1, e2, e⟩ := jbind e
  refine ey_rs (s0 := [jR x2, jI x5]) (s1 := [jR (some a1), jI x5]) (by rw [e2]) ?_
  obtain ⟨v3, e4, e⟩ := jbind e
  refine ey_getf_i (cd_69 rfl) mt_69 rfl rfl rfl e4 ?_
  by_cases q5 : (jw v3) ≤ (jw x5)
  · rw [if_pos q5] at e
    refine ey_cge (cd_69 rfl) rfl rfl rfl q5 ?_
    cases e
    exact K lv 
  · rw [if_neg q5] at e
    refine ey_nge (cd_69 rfl) rfl rfl rfl q5 ?_
    refine ey_aload_n (cd_69 rfl) f2 ?_
    obtain ⟨a6, e7, e⟩ := jbind e
    refine ey_rs (s0 := [jR x2]) (s1 := [jR (some a6)]) (by rw [e7]) ?_
    obtain ⟨r8, e9, e⟩ := jbind e
    refine ey_getf_r (cd_69 rfl) mt_69 rfl rfl rfl e9 ?_
    refine ey_iload (cd_69 rfl) f5 ?_
    obtain ⟨a10, e11, e⟩ := jbind e
    refine ey_rs (s0 := [jI x5, jR r8]) (s1 := [jI x5, jR (some a10)]) (by rw [e11]) ?_
    obtain ⟨v12, e13, e⟩ := jbind e
    refine ey_zald (cd_69 rfl) e13 ?_
    by_cases q14 : (jw v12) = 0
    · rw [if_pos q14] at e
      refine ey_yne (cd_69 rfl) rfl rfl (fun w => w q14) ?_
      refine ey_goto (cd_69 rfl) rfl ?_
      exact jk_69_b110 e K lv f0 f1 f2 f3 f4 f5
    · rw [if_neg q14] at e
      refine ey_zne (cd_69 rfl) rfl rfl q14 ?_
      refine ey_aload_n (cd_69 rfl) f2 ?_
      refine ey_iload (cd_69 rfl) f5 ?_
      obtain ⟨a15, e16, e⟩ := jbind e
      refine ey_rs (s0 := [jI x5, jR x2]) (s1 := [jI x5, jR (some a15)]) (by rw [e16]) ?_
      obtain ⟨u17, e18, e⟩ := jbind e
      obtain ⟨v19, e20, e⟩ := jbind e
      refine ey_cv (s0 := [jI x5, jR (some a15)]) (s1 := []) (st' := [jI v19]) (cd_69 rfl) mt_69 mt_38 rfl rfl rfl (jck_s e18) rfl (jsml_s rfl) rfl (mm_Runs.up (d := 1) (by decide) (ok_38 e20)) ?_
      refine ey_istore (cd_69 rfl) mt_69 rfl ?_
      refine ey_iload_n (cd_69 rfl) f3 ?_
      refine ey_iload (cd_69 rfl) (jup_pi (lv := lv) (j := 5) (v := jI v19) (z := x5) f5) ?_
      refine ey_max (cd_69 rfl) mt_69 rfl (jsml_s rfl) ?_
      obtain ⟨z21, e22, e⟩ := jbind e
      refine ey_rs (s0 := [jI (if jw x3 < jw x5 then x5 else x3)]) (s1 := [jI z21]) (by rw [show (if jw x3 < jw x5 then x5 else x3) = z21 from Option.some.inj e22]) ?_
      refine ey_istore (cd_69 rfl) mt_69 rfl ?_
      refine ey_iload (cd_69 rfl) f4 ?_
      refine ey_iload (cd_69 rfl) (jup_pi (lv := (jup lv 6 (jI v19))) (j := 6) (v := jI z21) (z := v19) rfl) ?_
      refine ey_iconst (cd_69 rfl) ?_
      refine ey_isub (cd_69 rfl) ?_
      refine ey_min (cd_69 rfl) mt_69 rfl (jsml_s rfl) ?_
      obtain ⟨z23, e24, e⟩ := jbind e
      refine ey_rs (s0 := [jI (if jw (v19 - 1) < jw x4 then (v19 - 1) else x4)]) (s1 := [jI z23]) (by rw [show (if jw (v19 - 1) < jw x4 then (v19 - 1) else x4) = z23 from Option.some.inj e24]) ?_
      refine ey_istore (cd_69 rfl) mt_69 rfl ?_
      refine ey_iload (cd_69 rfl) (jup_pi (lv := (jup (jup lv 6 (jI v19)) 7 (jI z21))) (j := 7) (v := jI z23) (z := z21) rfl) ?_
      refine ey_iload (cd_69 rfl) (jup_o rfl (jup_o rfl (jup_pi (lv := lv) (j := 5) (v := jI v19) (z := x5) f5))) ?_
      by_cases q25 : (jw z21) = (jw x5)
      · rw [if_pos q25] at e
        refine ey_nne (cd_69 rfl) rfl rfl rfl (fun w => w q25) ?_
        refine ey_iload (cd_69 rfl) rfl ?_
        refine ey_iload (cd_69 rfl) (jup_o rfl (jup_pi (lv := (jup lv 6 (jI v19))) (j := 6) (v := jI z21) (z := v19) rfl)) ?_
        refine ey_iconst (cd_69 rfl) ?_
        refine ey_isub (cd_69 rfl) ?_
        by_cases q26 : (jw z23) = (jw (v19 - 1))
        · rw [if_pos q26] at e
          refine ey_nne (cd_69 rfl) rfl rfl rfl (fun w => w q26) ?_
          refine ey_aload_n (cd_69 rfl) f0 ?_
          refine ey_aload_n (cd_69 rfl) f1 ?_
          refine ey_aload_n (cd_69 rfl) f2 ?_
          refine ey_iload (cd_69 rfl) (jup_o rfl (jup_o rfl (jup_pi (lv := lv) (j := 5) (v := jI v19) (z := x5) f5))) ?_
          refine ey_iload (cd_69 rfl) (jup_o rfl (jup_pi (lv := (jup lv 6 (jI v19))) (j := 6) (v := jI z21) (z := v19) rfl)) ?_
          obtain ⟨u27, e28, e⟩ := jbind e
          obtain ⟨h29, e30, e⟩ := jbind e
          refine ey_cv (s0 := [jI v19, jI x5, jR x2, jR x1, jR (some this)]) (s1 := []) (st' := []) (cd_69 rfl) mt_69 mt_70 rfl rfl rfl (jck_s e28) rfl (jsml_s rfl) rfl (mm_Runs.up (d := 4) (by decide) (ok_70 e30)) ?_
          refine ey_goto (cd_69 rfl) rfl ?_
          exact jk_69_b110 e K (jup (jup (jup lv 6 (jI v19)) 7 (jI z21)) 8 (jI z23)) f0 f1 f2 f3 f4 (jup_o rfl (jup_o rfl (jup_pi (lv := lv) (j := 5) (v := jI v19) (z := x5) f5)))
        · rw [if_neg q26] at e
          refine ey_cne (cd_69 rfl) rfl rfl rfl q26 ?_
          exact jk_69_b81 e K (jup (jup (jup lv 6 (jI v19)) 7 (jI z21)) 8 (jI z23)) f0 f1 f2 f3 f4 (jup_o rfl (jup_o rfl (jup_pi (lv := lv) (j := 5) (v := jI v19) (z := x5) f5))) (jup_pi (lv := (jup (jup lv 6 (jI v19)) 7 (jI z21))) (j := 7) (v := jI z23) (z := z21) rfl) rfl
      · rw [if_neg q25] at e
        refine ey_cne (cd_69 rfl) rfl rfl rfl q25 ?_
        exact jk_69_b81 e K (jup (jup (jup lv 6 (jI v19)) 7 (jI z21)) 8 (jI z23)) f0 f1 f2 f3 f4 (jup_o rfl (jup_o rfl (jup_pi (lv := lv) (j := 5) (v := jI v19) (z := x5) f5))) (jup_pi (lv := (jup (jup lv 6 (jI v19)) 7 (jI z21))) (j := 7) (v := jI z23) (z := z21) rfl) rfl
theorem jk_69_l3 {L : Nat} {xs : Nat → Int32} {this : Nat} {x1 : Option Nat} {x2 : Option Nat} {x3 : Int} {x4 : Int} {x5 : Int} {h : jH} {x : (jH ⊕ jH)} {r : mm_R} (e : jd_69_l3 this x1 x2 x3 x4 x5 h = some x) (K : (jsm (fun y => (∀ lv : jL, ey (mm_xt L xs) 6 69 108 lv [] y r)) (fun z => (∀ lv : jL, ey (mm_xt L xs) 6 69 116 lv [] z r)) x)) : ∀ lv : jL, lv 0 = some (jR (some this)) → lv 1 = some (jR x1) → lv 2 = some (jR x2) → lv 3 = some (jI x3) → lv 4 = some (jI x4) → lv 5 = some (jI x5) → ey (mm_xt L xs) 6 69 3 lv [] h r := by
  unfold jd_69_l3 at e
  exact jlp_ok2 (P := fun s => ∀ lv : jL, lv 0 = some (jR (some this)) → lv 1 = some (jR x1) → lv 2 = some (jR x2) → lv 3 = some (jI x3) → lv 4 = some (jI x4) → lv 5 = some (jI s.1) → ey (mm_xt L xs) 6 69 3 lv [] s.2 r) (Q := fun x => (jsm (fun y => (∀ lv : jL, ey (mm_xt L xs) 6 69 108 lv [] y r)) (fun z => (∀ lv : jL, ey (mm_xt L xs) 6 69 116 lv [] z r)) x)) (fun s q hq hk => jk_69_s3 hq hk) jfu _ x e K
set_option maxRecDepth 100000 in
theorem ok_69 {L : Nat} {xs : Nat → Int32} {this : Nat} {p0 : Option Nat} {p1 : Option Nat} {p2 : Int} {p3 : Int} {h : jH} {o : (Int × jH)} (e : jd_69 this p0 p1 p2 p3 h = some o) : mm_Runs (mm_xt L xs) 7 69 ([jR (some this), jR p0, jR p1, jI p2, jI p3].map jcv) (jaH h) (.inl (some (jcv (jI o.1)), jaH o.2)) := by
  refine ey_run0 _ mt_69 (jsl_s rfl) ?_
  unfold jd_69 at e
  refine ey_iconst (cd_69 rfl) ?_
  refine ey_istore (cd_69 rfl) mt_69 rfl ?_
  obtain ⟨x45, e46, e⟩ := jbind e
  refine jk_69_l3 e46 ?_ (jup (jlf (jla 0 [jR (some this), jR p0, jR p1, jI p2, jI p3])) 5 (jI 0)) rfl rfl rfl rfl (jup_pi (lv := (jlf (jla 0 [jR (some this), jR p0, jR p1, jI p2, jI p3]))) (j := 4) (v := jI 0) (z := p3) rfl) rfl
  cases x45 with
  | inl y47 =>
    replace e : (some (0, y47) : Option (Int × jH)) = some o := e
    intro lv 
    refine ey_iconst (cd_69 rfl) ?_
    cases e
    exact ey_retz (cd_69 rfl) mt_69 rfl (Or.inl rfl)
  | inr y48 =>
    replace e : (some (1, y48) : Option (Int × jH)) = some o := e
    intro lv 
    refine ey_iconst (cd_69 rfl) ?_
    cases e
    exact ey_retz (cd_69 rfl) mt_69 rfl (Or.inr rfl)
theorem cd_99 {pc : Nat} {i : Instr × Nat} (h : mm_lk mm_c99 pc = some i) : mm_cd 99 pc = some i := h
theorem mt_99 : mm_MT 99 = (6, 1, some .int, 0, 0, []) := rfl
set_option maxRecDepth 100000 in
theorem ok_99 {L : Nat} {xs : Nat → Int32} {this : Nat}  {h : jH} {o : Int} (e : jd_99 this  h = some o) : mm_Runs (mm_xt L xs) 1 99 ([jR (some this)].map jcv) (jaH h) (.inl (some (jcv (jI o)), jaH h)) := by
  refine ey_run0 _ mt_99 (jsl_s rfl) ?_
  unfold jd_99 at e
  refine ey_aload_n (cd_99 rfl) rfl ?_
  obtain ⟨v1, e2, e⟩ := jbind e
  refine ey_getf_i (cd_99 rfl) mt_99 rfl rfl rfl e2 ?_
  refine ey_aload_n (cd_99 rfl) rfl ?_
  obtain ⟨v3, e4, e⟩ := jbind e
  refine ey_getf_i (cd_99 rfl) mt_99 rfl rfl rfl e4 ?_
  refine ey_imul (cd_99 rfl) ?_
  refine ey_iconst (cd_99 rfl) ?_
  refine ey_imul (cd_99 rfl) ?_
  refine ey_iconst (cd_99 rfl) ?_
  refine ey_idiv (cd_99 rfl) (by decide) ?_
  cases e
  exact ey_reti (cd_99 rfl) mt_99 rfl
theorem cd_100 {pc : Nat} {i : Instr × Nat} (h : mm_lk mm_c100 pc = some i) : mm_cd 100 pc = some i := h
theorem mt_100 : mm_MT 100 = (6, 2, some .boolean, 1, 0, []) := rfl
set_option maxRecDepth 100000 in
theorem jk_100_b27 {L : Nat} {xs : Nat → Int32} {this : Nat} {y0 : Int} {h : jH} {o : Int} (e : jd_100_b27 this y0 h = some o) : ∀ lv : jL, ey (mm_xt L xs) 0 100 27 lv [jI y0] h (.inl (some (jcv (jI o)), jaH h)) := by
  intro lv 
  unfold jd_100_b27 at e
  obtain ⟨u14, e15, e⟩ := jbind e
  cases e
  exact ey_retz (cd_100 rfl) mt_100 rfl (jbc_s e15)
set_option maxRecDepth 100000 in
theorem ok_100 {L : Nat} {xs : Nat → Int32} {this : Nat} {p0 : Option Nat} {h : jH} {o : Int} (e : jd_100 this p0 h = some o) : mm_Runs (mm_xt L xs) 1 100 ([jR (some this), jR p0].map jcv) (jaH h) (.inl (some (jcv (jI o)), jaH h)) := by
  refine ey_run0 _ mt_100 (jsl_s rfl) ?_
  unfold jd_100 at e
  refine ey_aload_n (cd_100 rfl) rfl ?_
  obtain ⟨v1, e2, e⟩ := jbind e
  refine ey_getf_i (cd_100 rfl) mt_100 rfl rfl rfl e2 ?_
  refine ey_aload_n (cd_100 rfl) rfl ?_
  obtain ⟨a3, e4, e⟩ := jbind e
  refine ey_rs (s0 := [jR p0, jI v1]) (s1 := [jR (some a3), jI v1]) (by rw [e4]) ?_
  obtain ⟨v5, e6, e⟩ := jbind e
  refine ey_getf_i (cd_100 rfl) mt_100 rfl rfl rfl e6 ?_
  by_cases q7 : (jw v1) = (jw v5)
  · rw [if_pos q7] at e
    refine ey_nne (cd_100 rfl) rfl rfl rfl (fun w => w q7) ?_
    refine ey_aload_n (cd_100 rfl) rfl ?_
    obtain ⟨v8, e9, e⟩ := jbind e
    refine ey_getf_i (cd_100 rfl) mt_100 rfl rfl rfl e9 ?_
    refine ey_aload_n (cd_100 rfl) rfl ?_
    obtain ⟨a10, e11, e⟩ := jbind e
    refine ey_rs (s0 := [jR p0, jI v8]) (s1 := [jR (some a10), jI v8]) (by rw [e11]) ?_
    obtain ⟨v12, e13, e⟩ := jbind e
    refine ey_getf_i (cd_100 rfl) mt_100 rfl rfl rfl e13 ?_
    have K16 : ∀ lv : jL, ey (mm_xt L xs) 0 100 27 lv [jI (if (jw v8) = (jw v12) then 1 else 0)] h (.inl (some (jcv (jI o)), jaH h)) := by
      intro lv 
      exact jk_100_b27 e lv 
    by_cases q17 : (jw v8) = (jw v12)
    · refine ey_nne (cd_100 rfl) rfl rfl rfl (fun w => w q17) ?_
      refine ey_iconst (cd_100 rfl) ?_
      refine ey_goto (cd_100 rfl) rfl ?_
      exact ey_rs (s0 := [jI 1]) (s1 := [jI (if (jw v8) = (jw v12) then 1 else 0)]) (by rw [show ((if (jw v8) = (jw v12) then 1 else 0) : Int) = 1 from (if_pos q17)]) (K16 (jlf (jla 0 [jR (some this), jR p0])) )
    · refine ey_cne (cd_100 rfl) rfl rfl rfl q17 ?_
      refine ey_iconst (cd_100 rfl) ?_
      exact ey_rs (s0 := [jI 0]) (s1 := [jI (if (jw v8) = (jw v12) then 1 else 0)]) (by rw [show ((if (jw v8) = (jw v12) then 1 else 0) : Int) = 0 from (if_neg q17)]) (K16 (jlf (jla 0 [jR (some this), jR p0])) )
  · rw [if_neg q7] at e
    refine ey_cne (cd_100 rfl) rfl rfl rfl q7 ?_
    refine ey_iconst (cd_100 rfl) ?_
    exact jk_100_b27 e (jlf (jla 0 [jR (some this), jR p0])) 
theorem cd_101 {pc : Nat} {i : Instr × Nat} (h : mm_lk mm_c101 pc = some i) : mm_cd 101 pc = some i := h
theorem mt_101 : mm_MT 101 = (6, 6, none, 2, 0, []) := rfl
set_option maxRecDepth 100000 in
theorem jk_101_s24 {L : Nat} {xs : Nat → Int32} {this : Nat} {x2 : Int} {x4 : Int} {x5 : Int} {h : jH} {o : ((Int × jH) ⊕ jH)} {r : mm_R} (e : jd_101_s24 this x2 x4 x5 h = some o) (K : jsm (fun s => (∀ lv : jL, lv 0 = some (jR (some this)) → lv 2 = some (jI x2) → lv 4 = some (jI x4) → lv 5 = some (jI s.1) → ey (mm_xt L xs) 1 101 24 lv [] s.2 r)) (fun x => (∀ lv : jL, ey (mm_xt L xs) 1 101 45 lv [] x r)) o) : ∀ lv : jL, lv 0 = some (jR (some this)) → lv 2 = some (jI x2) → lv 4 = some (jI x4) → lv 5 = some (jI x5) → ey (mm_xt L xs) 1 101 24 lv [] h r := by
  intro lv f0 f2 f4 f5
  unfold jd_101_s24 at e
  refine ey_iload (cd_101 rfl) f5 ?_
  refine ey_iload (cd_101 rfl) f4 ?_
  by_cases q13 : (jw x4) ≤ (jw x5)
  · rw [if_pos q13] at e
    refine ey_cge (cd_101 rfl) rfl rfl rfl q13 ?_
    cases e
    exact K lv 
  · rw [if_neg q13] at e
    refine ey_nge (cd_101 rfl) rfl rfl rfl q13 ?_
    refine ey_aload_n (cd_101 rfl) f0 ?_
    obtain ⟨r14, e15, e⟩ := jbind e
    refine ey_getf_r (cd_101 rfl) mt_101 rfl rfl rfl e15 ?_
    refine ey_iload (cd_101 rfl) f5 ?_
    refine ey_iload_n (cd_101 rfl) f2 ?_
    obtain ⟨a16, e17, e⟩ := jbind e
    refine ey_rs (s0 := [jI x2, jI x5, jR r14]) (s1 := [jI x2, jI x5, jR (some a16)]) (by rw [e17]) ?_
    obtain ⟨h18, e19, e⟩ := jbind e
    refine ey_iast (cd_101 rfl) e19 ?_
    refine ey_iinc (cd_101 rfl) mt_101 rfl f5 ?_
    refine ey_goto (cd_101 rfl) rfl ?_
    cases e
    exact K (jup lv 5 (jI (x5 + 1))) f0 f2 (jup_pi (lv := lv) (j := 4) (v := jI (x5 + 1)) (z := x4) f4) rfl
theorem jk_101_l24 {L : Nat} {xs : Nat → Int32} {this : Nat} {x2 : Int} {x4 : Int} {x5 : Int} {h : jH} {x : jH} {r : mm_R} (e : jd_101_l24 this x2 x4 x5 h = some x) (K : (∀ lv : jL, ey (mm_xt L xs) 1 101 45 lv [] x r)) : ∀ lv : jL, lv 0 = some (jR (some this)) → lv 2 = some (jI x2) → lv 4 = some (jI x4) → lv 5 = some (jI x5) → ey (mm_xt L xs) 1 101 24 lv [] h r := by
  unfold jd_101_l24 at e
  exact jlp_ok2 (P := fun s => ∀ lv : jL, lv 0 = some (jR (some this)) → lv 2 = some (jI x2) → lv 4 = some (jI x4) → lv 5 = some (jI s.1) → ey (mm_xt L xs) 1 101 24 lv [] s.2 r) (Q := fun x => (∀ lv : jL, ey (mm_xt L xs) 1 101 45 lv [] x r)) (fun s q hq hk => jk_101_s24 hq hk) jfu _ x e K
set_option maxRecDepth 100000 in
theorem ok_101 {L : Nat} {xs : Nat → Int32} {this : Nat} {p0 : Int} {p1 : Int} {h : jH} {o : jH} (e : jd_101 this p0 p1 h = some o) : mm_Runs (mm_xt L xs) 2 101 ([jR (some this), jI p0, jI p1].map jcv) (jaH h) (.inl (none, jaH o)) := by
  refine ey_run0 _ mt_101 (jsl_s rfl) ?_
  unfold jd_101 at e
  refine ey_aload_n (cd_101 rfl) rfl ?_
  refine ey_iload_n (cd_101 rfl) rfl ?_
  obtain ⟨u1, e2, e⟩ := jbind e
  obtain ⟨v3, e4, e⟩ := jbind e
  refine ey_cv (s0 := [jI p0, jR (some this)]) (s1 := []) (st' := [jI v3]) (cd_101 rfl) mt_101 mt_98 rfl rfl rfl (jck_s e2) rfl (jsml_s rfl) rfl (ok_98 e4) ?_
  refine ey_istore_n (cd_101 rfl) mt_101 rfl ?_
  refine ey_iload_n (cd_101 rfl) rfl ?_
  refine ey_aload_n (cd_101 rfl) rfl ?_
  refine ey_iload_n (cd_101 rfl) rfl ?_
  obtain ⟨u5, e6, e⟩ := jbind e
  obtain ⟨v7, e8, e⟩ := jbind e
  refine ey_cv (s0 := [jI p0, jR (some this), jI v3]) (s1 := [jI v3]) (st' := [jI v7, jI v3]) (cd_101 rfl) mt_101 mt_96 rfl rfl rfl (jck_s e6) rfl (jsml_s rfl) rfl (ok_96 e8) ?_
  refine ey_aload_n (cd_101 rfl) rfl ?_
  refine ey_iload_n (cd_101 rfl) rfl ?_
  obtain ⟨u9, e10, e⟩ := jbind e
  obtain ⟨v11, e12, e⟩ := jbind e
  refine ey_cv (s0 := [jI p0, jR (some this), jI v7, jI v3]) (s1 := [jI v7, jI v3]) (st' := [jI v11, jI v7, jI v3]) (cd_101 rfl) mt_101 mt_97 rfl rfl rfl (jck_s e10) rfl (jsml_s rfl) rfl (ok_97 e12) ?_
  refine ey_imul (cd_101 rfl) ?_
  refine ey_iadd (cd_101 rfl) ?_
  refine ey_istore (cd_101 rfl) mt_101 rfl ?_
  refine ey_iload_n (cd_101 rfl) (jup_pi (lv := (jup (jlf (jla 0 [jR (some this), jI p0, jI p1])) 3 (jI v3))) (j := 3) (v := jI (v3 + (v7 * v11))) (z := v3) rfl) ?_
  refine ey_istore (cd_101 rfl) mt_101 rfl ?_
  obtain ⟨x20, e21, e⟩ := jbind e
  refine jk_101_l24 e21 ?_ (jup (jup (jup (jlf (jla 0 [jR (some this), jI p0, jI p1])) 3 (jI v3)) 4 (jI (v3 + (v7 * v11)))) 5 (jI v3)) rfl (jup_o rfl (jup_o rfl (jup_pi (lv := (jlf (jla 0 [jR (some this), jI p0, jI p1]))) (j := 2) (v := jI v3) (z := p1) rfl))) (jup_pi (lv := (jup (jup (jlf (jla 0 [jR (some this), jI p0, jI p1])) 3 (jI v3)) 4 (jI (v3 + (v7 * v11))))) (j := 4) (v := jI v3) (z := (v3 + (v7 * v11))) rfl) rfl
  intro lv 
  cases e
  exact ey_retv (cd_101 rfl) mt_101 rfl
theorem cd_102 {pc : Nat} {i : Instr × Nat} (h : mm_lk mm_c102 pc = some i) : mm_cd 102 pc = some i := h
theorem mt_102 : mm_MT 102 = (6, 2, none, 1, 0, []) := rfl
set_option maxRecDepth 100000 in
theorem ok_102 {L : Nat} {xs : Nat → Int32} {this : Nat} {p0 : Option Nat} {h : jH} {o : jH} (e : jd_102 this p0 h = some o) : mm_Runs (mm_xt L xs) 2 102 ([jR (some this), jR p0].map jcv) (jaH h) (.inl (none, jaH o)) := by
  refine ey_run0 _ mt_102 (jsl_s rfl) ?_
  unfold jd_102 at e
  refine ey_aload_n (cd_102 rfl) rfl ?_
  refine ey_aload_n (cd_102 rfl) rfl ?_
  obtain ⟨a1, e2, e⟩ := jbind e
  refine ey_rs (s0 := [jR p0, jR (some this)]) (s1 := [jR (some a1), jR (some this)]) (by rw [e2]) ?_
  obtain ⟨v3, e4, e⟩ := jbind e
  refine ey_getf_i (cd_102 rfl) mt_102 rfl rfl rfl e4 ?_
  refine ey_aload_n (cd_102 rfl) rfl ?_
  obtain ⟨a5, e6, e⟩ := jbind e
  refine ey_rs (s0 := [jR p0, jI v3, jR (some this)]) (s1 := [jR (some a5), jI v3, jR (some this)]) (by rw [e6]) ?_
  obtain ⟨v7, e8, e⟩ := jbind e
  refine ey_getf_i (cd_102 rfl) mt_102 rfl rfl rfl e8 ?_
  obtain ⟨u9, e10, e⟩ := jbind e
  obtain ⟨h11, e12, e⟩ := jbind e
  refine ey_cv (s0 := [jI v7, jI v3, jR (some this)]) (s1 := []) (st' := []) (cd_102 rfl) mt_102 mt_95 rfl rfl rfl (jck_s e10) rfl (jsml_s rfl) rfl (ok_95 e12) ?_
  refine ey_aload_n (cd_102 rfl) rfl ?_
  obtain ⟨a13, e14, e⟩ := jbind e
  refine ey_rs (s0 := [jR p0]) (s1 := [jR (some a13)]) (by rw [e14]) ?_
  obtain ⟨r15, e16, e⟩ := jbind e
  refine ey_getf_r (cd_102 rfl) mt_102 rfl rfl rfl e16 ?_
  refine ey_iconst (cd_102 rfl) ?_
  refine ey_aload_n (cd_102 rfl) rfl ?_
  obtain ⟨r17, e18, e⟩ := jbind e
  refine ey_getf_r (cd_102 rfl) mt_102 rfl rfl rfl e18 ?_
  refine ey_iconst (cd_102 rfl) ?_
  refine ey_aload_n (cd_102 rfl) rfl ?_
  obtain ⟨u19, e20, e⟩ := jbind e
  obtain ⟨v21, e22, e⟩ := jbind e
  refine ey_cv (s0 := [jR (some this), jI 0, jR r17, jI 0, jR r15]) (s1 := [jI 0, jR r17, jI 0, jR r15]) (st' := [jI v21, jI 0, jR r17, jI 0, jR r15]) (cd_102 rfl) mt_102 mt_99 rfl rfl rfl (jck_s e20) rfl (jsml_s rfl) rfl (ok_99 e22) ?_
  obtain ⟨a23, e24, e⟩ := jbind e
  refine ey_rs (s0 := [jI v21, jI 0, jR r17, jI 0, jR r15]) (s1 := [jI v21, jI 0, jR (some a23), jI 0, jR r15]) (by rw [e24]) ?_
  obtain ⟨a25, e26, e⟩ := jbind e
  refine ey_rs (s0 := [jI v21, jI 0, jR (some a23), jI 0, jR r15]) (s1 := [jI v21, jI 0, jR (some a23), jI 0, jR (some a25)]) (by rw [e26]) ?_
  obtain ⟨h27, e28, e⟩ := jbind e
  refine ey_cpy (cd_102 rfl) mt_102 rfl (jsml_s rfl) e28 ?_
  cases e
  exact ey_retv (cd_102 rfl) mt_102 rfl
theorem cd_105 {pc : Nat} {i : Instr × Nat} (h : mm_lk mm_c105 pc = some i) : mm_cd 105 pc = some i := h
theorem mt_105 : mm_MT 105 = (6, 7, some .int, 2, 0, []) := rfl
set_option maxRecDepth 100000 in
theorem jk_105_b130 {L : Nat} {xs : Nat → Int32} {this : Nat} {x1 : Option Nat} {x2 : Int} {x3 : Int} {x4 : Int} {x5 : Int} {h : jH} {o : ((Int × Int) ⊕ Int)} {r : mm_R} (e : jd_105_b130 this x1 x2 x3 x4 x5 h = some o) (K : jsm (fun s => (∀ lv : jL, lv 0 = some (jR (some this)) → lv 1 = some (jR x1) → lv 2 = some (jI x2) → lv 3 = some (jI x3) → lv 4 = some (jI s.1) → lv 5 = some (jI s.2) → ey (mm_xt L xs) 1 105 28 lv [] h r)) (fun x => (∀ lv : jL, lv 4 = some (jI x) → ey (mm_xt L xs) 1 105 136 lv [] h r)) o) : ∀ lv : jL, lv 0 = some (jR (some this)) → lv 1 = some (jR x1) → lv 2 = some (jI x2) → lv 3 = some (jI x3) → lv 4 = some (jI x4) → lv 5 = some (jI x5) → ey (mm_xt L xs) 1 105 130 lv [] h r := by
  intro lv f0 f1 f2 f3 f4 f5
  unfold jd_105_b130 at e
  refine ey_iinc (cd_105 rfl) mt_105 rfl f5 ?_
  refine ey_goto (cd_105 rfl) rfl ?_
  cases e
  exact K (jup lv 5 (jI (x5 + 1))) f0 f1 f2 f3 (jup_pi (lv := lv) (j := 4) (v := jI (x5 + 1)) (z := x4) f4) rfl
set_option maxRecDepth 100000 in
theorem jk_105_s28 {L : Nat} {xs : Nat → Int32} {this : Nat} {x1 : Option Nat} {x2 : Int} {x3 : Int} {x4 : Int} {x5 : Int} {h : jH} {o : ((Int × Int) ⊕ Int)} {r : mm_R} (e : jd_105_s28 this x1 x2 x3 x4 x5 h = some o) (K : jsm (fun s => (∀ lv : jL, lv 0 = some (jR (some this)) → lv 1 = some (jR x1) → lv 2 = some (jI x2) → lv 3 = some (jI x3) → lv 4 = some (jI s.1) → lv 5 = some (jI s.2) → ey (mm_xt L xs) 1 105 28 lv [] h r)) (fun x => (∀ lv : jL, lv 4 = some (jI x) → ey (mm_xt L xs) 1 105 136 lv [] h r)) o) : ∀ lv : jL, lv 0 = some (jR (some this)) → lv 1 = some (jR x1) → lv 2 = some (jI x2) → lv 3 = some (jI x3) → lv 4 = some (jI x4) → lv 5 = some (jI x5) → ey (mm_xt L xs) 1 105 28 lv [] h r := by
  intro lv f0 f1 f2 f3 f4 f5
  unfold jd_105_s28 at e
  refine ey_iload (cd_105 rfl) f5 ?_
  refine ey_iload_n (cd_105 rfl) f3 ?_
  by_cases q6 : (jw x3) ≤ (jw x5)
  · rw [if_pos q6] at e
    refine ey_cge (cd_105 rfl) rfl rfl rfl q6 ?_
    cases e
    exact K lv f4
  · rw [if_neg q6] at e
    refine ey_nge (cd_105 rfl) rfl rfl rfl q6 ?_
    refine ey_aload_n (cd_105 rfl) f0 ?_
    obtain ⟨r7, e8, e⟩ := jbind e
    refine ey_getf_r (cd_105 rfl) mt_105 rfl rfl rfl e8 ?_
    refine ey_iload (cd_105 rfl) f5 ?_
    obtain ⟨a9, e10, e⟩ := jbind e
    refine ey_rs (s0 := [jI x5, jR r7]) (s1 := [jI x5, jR (some a9)]) (by rw [e10]) ?_
    obtain ⟨v11, e12, e⟩ := jbind e
    refine ey_iald (cd_105 rfl) e12 ?_
    refine ey_aload_n (cd_105 rfl) f1 ?_
    obtain ⟨a13, e14, e⟩ := jbind e
    refine ey_rs (s0 := [jR x1, jI v11]) (s1 := [jR (some a13), jI v11]) (by rw [e14]) ?_
    obtain ⟨r15, e16, e⟩ := jbind e
    refine ey_getf_r (cd_105 rfl) mt_105 rfl rfl rfl e16 ?_
    refine ey_iload (cd_105 rfl) f5 ?_
    obtain ⟨a17, e18, e⟩ := jbind e
    refine ey_rs (s0 := [jI x5, jR r15, jI v11]) (s1 := [jI x5, jR (some a17), jI v11]) (by rw [e18]) ?_
    obtain ⟨v19, e20, e⟩ := jbind e
    refine ey_iald (cd_105 rfl) e20 ?_
    refine ey_isub (cd_105 rfl) ?_
    refine ey_abs (cd_105 rfl) mt_105 rfl (jsml_s rfl) ?_
    obtain ⟨z21, e22, e⟩ := jbind e
    refine ey_rs (s0 := [jI (if 0 ≤ jw (v11 - v19) then (v11 - v19) else -(v11 - v19))]) (s1 := [jI z21]) (by rw [show (if 0 ≤ jw (v11 - v19) then (v11 - v19) else -(v11 - v19)) = z21 from Option.some.inj e22]) ?_
    refine ey_istore (cd_105 rfl) mt_105 rfl ?_
    refine ey_iload_n (cd_105 rfl) f2 ?_
    have K23 : ∀ lv : jL, lv 0 = some (jR (some this)) → lv 1 = some (jR x1) → lv 2 = some (jI x2) → lv 3 = some (jI x3) → lv 4 = some (jI (if (jw x2) = 0 then (x4 + z21) else (if (jw x2) = 1 then (x4 + (z21 * z21)) else (if (jw x2) = 2 then (if (jw z21) = 0 then (x4 + 0) else (x4 + 1)) else (if jw x4 < jw z21 then z21 else x4))))) → lv 5 = some (jI x5) → ey (mm_xt L xs) 1 105 130 lv [] h r := by
      intro lv g0 g1 g2 g3 g4 g5
      exact jk_105_b130 e K lv g0 g1 g2 g3 g4 g5
    by_cases q24 : (jw x2) = 0
    · refine ey_tsw (cd_105 rfl) q24 (by decide) rfl rfl ?_
      refine ey_iload (cd_105 rfl) f4 ?_
      refine ey_iload (cd_105 rfl) rfl ?_
      refine ey_iadd (cd_105 rfl) ?_
      refine ey_istore (cd_105 rfl) mt_105 rfl ?_
      refine ey_goto (cd_105 rfl) rfl ?_
      exact K23 (jup (jup lv 6 (jI z21)) 4 (jI (x4 + z21))) f0 f1 f2 (jup_pi (lv := (jup lv 6 (jI z21))) (j := 3) (v := jI (x4 + z21)) (z := x3) f3) (Eq.trans (show (jup (jup lv 6 (jI z21)) 4 (jI (x4 + z21))) 4 = some (jI (x4 + z21)) from rfl) (congrArg (fun z => some (jI z)) (Eq.symm (if_pos q24)))) (jup_o rfl (jup_pi (lv := lv) (j := 5) (v := jI z21) (z := x5) f5))
    · by_cases q25 : (jw x2) = 1
      · refine ey_tsw (cd_105 rfl) q25 (by decide) rfl rfl ?_
        refine ey_iload (cd_105 rfl) f4 ?_
        refine ey_iload (cd_105 rfl) rfl ?_
        refine ey_iload (cd_105 rfl) rfl ?_
        refine ey_imul (cd_105 rfl) ?_
        refine ey_iadd (cd_105 rfl) ?_
        refine ey_istore (cd_105 rfl) mt_105 rfl ?_
        refine ey_goto (cd_105 rfl) rfl ?_
        exact K23 (jup (jup lv 6 (jI z21)) 4 (jI (x4 + (z21 * z21)))) f0 f1 f2 (jup_pi (lv := (jup lv 6 (jI z21))) (j := 3) (v := jI (x4 + (z21 * z21))) (z := x3) f3) (Eq.trans (show (jup (jup lv 6 (jI z21)) 4 (jI (x4 + (z21 * z21)))) 4 = some (jI (x4 + (z21 * z21))) from rfl) (congrArg (fun z => some (jI z)) (Eq.symm ((if_neg q24).trans (if_pos q25))))) (jup_o rfl (jup_pi (lv := lv) (j := 5) (v := jI z21) (z := x5) f5))
      · by_cases q26 : (jw x2) = 2
        · refine ey_tsw (cd_105 rfl) q26 (by decide) rfl rfl ?_
          refine ey_iload (cd_105 rfl) f4 ?_
          refine ey_iload (cd_105 rfl) rfl ?_
          by_cases q27 : (jw z21) = 0
          · refine ey_yne (cd_105 rfl) rfl rfl (fun w => w q27) ?_
            refine ey_iconst (cd_105 rfl) ?_
            refine ey_goto (cd_105 rfl) rfl ?_
            refine ey_iadd (cd_105 rfl) ?_
            refine ey_istore (cd_105 rfl) mt_105 rfl ?_
            refine ey_goto (cd_105 rfl) rfl ?_
            exact K23 (jup (jup lv 6 (jI z21)) 4 (jI (x4 + 0))) f0 f1 f2 (jup_pi (lv := (jup lv 6 (jI z21))) (j := 3) (v := jI (x4 + 0)) (z := x3) f3) (Eq.trans (show (jup (jup lv 6 (jI z21)) 4 (jI (x4 + 0))) 4 = some (jI (x4 + 0)) from rfl) (congrArg (fun z => some (jI z)) (Eq.symm ((if_neg q24).trans ((if_neg q25).trans ((if_pos q26).trans (if_pos q27))))))) (jup_o rfl (jup_pi (lv := lv) (j := 5) (v := jI z21) (z := x5) f5))
          · refine ey_zne (cd_105 rfl) rfl rfl q27 ?_
            refine ey_iconst (cd_105 rfl) ?_
            refine ey_iadd (cd_105 rfl) ?_
            refine ey_istore (cd_105 rfl) mt_105 rfl ?_
            refine ey_goto (cd_105 rfl) rfl ?_
            exact K23 (jup (jup lv 6 (jI z21)) 4 (jI (x4 + 1))) f0 f1 f2 (jup_pi (lv := (jup lv 6 (jI z21))) (j := 3) (v := jI (x4 + 1)) (z := x3) f3) (Eq.trans (show (jup (jup lv 6 (jI z21)) 4 (jI (x4 + 1))) 4 = some (jI (x4 + 1)) from rfl) (congrArg (fun z => some (jI z)) (Eq.symm ((if_neg q24).trans ((if_neg q25).trans ((if_pos q26).trans (if_neg q27))))))) (jup_o rfl (jup_pi (lv := lv) (j := 5) (v := jI z21) (z := x5) f5))
        · refine ey_tsw_d (cd_105 rfl) (by omega) rfl ?_
          refine ey_iload (cd_105 rfl) f4 ?_
          refine ey_iload (cd_105 rfl) rfl ?_
          refine ey_max (cd_105 rfl) mt_105 rfl (jsml_s rfl) ?_
          refine ey_istore (cd_105 rfl) mt_105 rfl ?_
          exact K23 (jup (jup lv 6 (jI z21)) 4 (jI (if jw x4 < jw z21 then z21 else x4))) f0 f1 f2 (jup_pi (lv := (jup lv 6 (jI z21))) (j := 3) (v := jI (if jw x4 < jw z21 then z21 else x4)) (z := x3) f3) (Eq.trans (show (jup (jup lv 6 (jI z21)) 4 (jI (if jw x4 < jw z21 then z21 else x4))) 4 = some (jI (if jw x4 < jw z21 then z21 else x4)) from rfl) (congrArg (fun z => some (jI z)) (Eq.symm ((if_neg q24).trans ((if_neg q25).trans (if_neg q26)))))) (jup_o rfl (jup_pi (lv := lv) (j := 5) (v := jI z21) (z := x5) f5))
theorem jk_105_l28 {L : Nat} {xs : Nat → Int32} {this : Nat} {x1 : Option Nat} {x2 : Int} {x3 : Int} {x4 : Int} {x5 : Int} {h : jH} {x : Int} {r : mm_R} (e : jd_105_l28 this x1 x2 x3 x4 x5 h = some x) (K : (∀ lv : jL, lv 4 = some (jI x) → ey (mm_xt L xs) 1 105 136 lv [] h r)) : ∀ lv : jL, lv 0 = some (jR (some this)) → lv 1 = some (jR x1) → lv 2 = some (jI x2) → lv 3 = some (jI x3) → lv 4 = some (jI x4) → lv 5 = some (jI x5) → ey (mm_xt L xs) 1 105 28 lv [] h r := by
  unfold jd_105_l28 at e
  exact jlp_ok2 (P := fun s => ∀ lv : jL, lv 0 = some (jR (some this)) → lv 1 = some (jR x1) → lv 2 = some (jI x2) → lv 3 = some (jI x3) → lv 4 = some (jI s.1) → lv 5 = some (jI s.2) → ey (mm_xt L xs) 1 105 28 lv [] h r) (Q := fun x => (∀ lv : jL, lv 4 = some (jI x) → ey (mm_xt L xs) 1 105 136 lv [] h r)) (fun s q hq hk => jk_105_s28 hq hk) jfu _ x e K
set_option maxRecDepth 100000 in
theorem jk_105_b21 {L : Nat} {xs : Nat → Int32} {this : Nat} {x1 : Option Nat} {x2 : Int} {y0 : Int} {h : jH} {o : Int} (e : jd_105_b21 this x1 x2 y0 h = some o) : ∀ lv : jL, lv 0 = some (jR (some this)) → lv 1 = some (jR x1) → lv 2 = some (jI x2) → ey (mm_xt L xs) 1 105 21 lv [jI y0] h (.inl (some (jcv (jI o)), jaH h)) := by
  intro lv f0 f1 f2
  unfold jd_105_b21 at e
  refine ey_istore_n (cd_105 rfl) mt_105 rfl ?_
  refine ey_iconst (cd_105 rfl) ?_
  refine ey_istore (cd_105 rfl) mt_105 rfl ?_
  refine ey_iconst (cd_105 rfl) ?_
  refine ey_istore (cd_105 rfl) mt_105 rfl ?_
  obtain ⟨x28, e29, e⟩ := jbind e
  refine jk_105_l28 e29 ?_ (jup (jup (jup lv 3 (jI y0)) 4 (jI 0)) 5 (jI 0)) f0 f1 (jup_o rfl (jup_o rfl (jup_pi (lv := lv) (j := 2) (v := jI y0) (z := x2) f2))) (jup_o rfl (jup_pi (lv := (jup lv 3 (jI y0))) (j := 3) (v := jI 0) (z := y0) rfl)) (jup_pi (lv := (jup (jup lv 3 (jI y0)) 4 (jI 0))) (j := 4) (v := jI 0) (z := 0) rfl) rfl
  intro lv g4
  refine ey_iload (cd_105 rfl) g4 ?_
  cases e
  exact ey_reti (cd_105 rfl) mt_105 rfl
set_option maxRecDepth 100000 in
theorem ok_105 {L : Nat} {xs : Nat → Int32} {this : Nat} {p0 : Option Nat} {p1 : Int} {h : jH} {o : Int} (e : jd_105 this p0 p1 h = some o) : mm_Runs (mm_xt L xs) 2 105 ([jR (some this), jR p0, jI p1].map jcv) (jaH h) (.inl (some (jcv (jI o)), jaH h)) := by
  refine ey_run0 _ mt_105 (jsl_s rfl) ?_
  unfold jd_105 at e
  refine ey_iload_n (cd_105 rfl) rfl ?_
  refine ey_iconst (cd_105 rfl) ?_
  by_cases q1 : (jw p1) = 3
  · rw [if_pos q1] at e
    refine ey_nne (cd_105 rfl) rfl rfl (show jw 3 = 3 from by decide) (fun w => w q1) ?_
    refine ey_aload_n (cd_105 rfl) rfl ?_
    obtain ⟨v2, e3, e⟩ := jbind e
    refine ey_getf_i (cd_105 rfl) mt_105 rfl rfl rfl e3 ?_
    refine ey_aload_n (cd_105 rfl) rfl ?_
    obtain ⟨v4, e5, e⟩ := jbind e
    refine ey_getf_i (cd_105 rfl) mt_105 rfl rfl rfl e5 ?_
    refine ey_imul (cd_105 rfl) ?_
    refine ey_goto (cd_105 rfl) rfl ?_
    exact jk_105_b21 e (jlf (jla 0 [jR (some this), jR p0, jI p1])) rfl rfl rfl
  · rw [if_neg q1] at e
    refine ey_cne (cd_105 rfl) rfl rfl (show jw 3 = 3 from by decide) q1 ?_
    refine ey_aload_n (cd_105 rfl) rfl ?_
    obtain ⟨u30, e31, e⟩ := jbind e
    obtain ⟨v32, e33, e⟩ := jbind e
    refine ey_cv (s0 := [jR (some this)]) (s1 := []) (st' := [jI v32]) (cd_105 rfl) mt_105 mt_99 rfl rfl rfl (jck_s e31) rfl (jsml_s rfl) rfl (ok_99 e33) ?_
    exact jk_105_b21 e (jlf (jla 0 [jR (some this), jR p0, jI p1])) rfl rfl rfl
theorem cd_106 {pc : Nat} {i : Instr × Nat} (h : mm_lk mm_c106 pc = some i) : mm_cd 106 pc = some i := h
theorem mt_106 : mm_MT 106 = (6, 6, some .boolean, 1, 0, []) := rfl
set_option maxRecDepth 100000 in
theorem jk_106_s18 {L : Nat} {xs : Nat → Int32} {this : Nat} {x1 : Option Nat} {x2 : Int} {x3 : Option Nat} {x4 : Int} {h : jH} {o : ((Int × jH) ⊕ jH)} {r : mm_R} (e : jd_106_s18 this x1 x2 x3 x4 h = some o) (K : jsm (fun s => (∀ lv : jL, lv 0 = some (jR (some this)) → lv 1 = some (jR x1) → lv 2 = some (jI x2) → lv 3 = some (jR x3) → lv 4 = some (jI s.1) → ey (mm_xt L xs) 0 106 18 lv [] s.2 r)) (fun x => (∀ lv : jL, lv 2 = some (jI x2) → lv 3 = some (jR x3) → ey (mm_xt L xs) 0 106 66 lv [] x r)) o) : ∀ lv : jL, lv 0 = some (jR (some this)) → lv 1 = some (jR x1) → lv 2 = some (jI x2) → lv 3 = some (jR x3) → lv 4 = some (jI x4) → ey (mm_xt L xs) 0 106 18 lv [] h r := by
  intro lv f0 f1 f2 f3 f4
  unfold jd_106_s18 at e
  refine ey_iload (cd_106 rfl) f4 ?_
  refine ey_iload_n (cd_106 rfl) f2 ?_
  by_cases q7 : (jw x2) ≤ (jw x4)
  · rw [if_pos q7] at e
    refine ey_cge (cd_106 rfl) rfl rfl rfl q7 ?_
    cases e
    exact K lv f2 f3
  · rw [if_neg q7] at e
    refine ey_nge (cd_106 rfl) rfl rfl rfl q7 ?_
    refine ey_aload_n (cd_106 rfl) f3 ?_
    refine ey_aload_n (cd_106 rfl) f0 ?_
    obtain ⟨r8, e9, e⟩ := jbind e
    refine ey_getf_r (cd_106 rfl) mt_106 rfl rfl rfl e9 ?_
    refine ey_iload (cd_106 rfl) f4 ?_
    obtain ⟨a10, e11, e⟩ := jbind e
    refine ey_rs (s0 := [jI x4, jR r8, jR x3]) (s1 := [jI x4, jR (some a10), jR x3]) (by rw [e11]) ?_
    obtain ⟨v12, e13, e⟩ := jbind e
    refine ey_iald (cd_106 rfl) e13 ?_
    refine ey_iconst (cd_106 rfl) ?_
    refine ey_ishr (cd_106 rfl) ?_
    refine ey_bipush (cd_106 rfl) (by decide) ?_
    refine ey_iand (cd_106 rfl) ?_
    refine ey_dup2 (cd_106 rfl) rfl rfl ?_
    obtain ⟨a14, e15, e⟩ := jbind e
    refine ey_rs (s0 := [jI (jand (jshr v12 4) 15), jR x3, jI (jand (jshr v12 4) 15), jR x3]) (s1 := [jI (jand (jshr v12 4) 15), jR (some a14), jI (jand (jshr v12 4) 15), jR x3]) (by rw [e15]) ?_
    obtain ⟨v16, e17, e⟩ := jbind e
    refine ey_iald (cd_106 rfl) e17 ?_
    refine ey_iconst (cd_106 rfl) ?_
    refine ey_iadd (cd_106 rfl) ?_
    obtain ⟨a18, e19, e⟩ := jbind e
    refine ey_rs (s0 := [jI (v16 + 1), jI (jand (jshr v12 4) 15), jR x3]) (s1 := [jI (v16 + 1), jI (jand (jshr v12 4) 15), jR (some a18)]) (by rw [e19]) ?_
    obtain ⟨h20, e21, e⟩ := jbind e
    refine ey_iast (cd_106 rfl) e21 ?_
    refine ey_aload_n (cd_106 rfl) f3 ?_
    refine ey_aload_n (cd_106 rfl) f1 ?_
    obtain ⟨a22, e23, e⟩ := jbind e
    refine ey_rs (s0 := [jR x1, jR x3]) (s1 := [jR (some a22), jR x3]) (by rw [e23]) ?_
    obtain ⟨r24, e25, e⟩ := jbind e
    refine ey_getf_r (cd_106 rfl) mt_106 rfl rfl rfl e25 ?_
    refine ey_iload (cd_106 rfl) f4 ?_
    obtain ⟨a26, e27, e⟩ := jbind e
    refine ey_rs (s0 := [jI x4, jR r24, jR x3]) (s1 := [jI x4, jR (some a26), jR x3]) (by rw [e27]) ?_
    obtain ⟨v28, e29, e⟩ := jbind e
    refine ey_iald (cd_106 rfl) e29 ?_
    refine ey_iconst (cd_106 rfl) ?_
    refine ey_ishr (cd_106 rfl) ?_
    refine ey_bipush (cd_106 rfl) (by decide) ?_
    refine ey_iand (cd_106 rfl) ?_
    refine ey_dup2 (cd_106 rfl) rfl rfl ?_
    obtain ⟨a30, e31, e⟩ := jbind e
    refine ey_rs (s0 := [jI (jand (jshr v28 4) 15), jR x3, jI (jand (jshr v28 4) 15), jR x3]) (s1 := [jI (jand (jshr v28 4) 15), jR (some a30), jI (jand (jshr v28 4) 15), jR x3]) (by rw [e31]) ?_
    obtain ⟨v32, e33, e⟩ := jbind e
    refine ey_iald (cd_106 rfl) e33 ?_
    refine ey_iconst (cd_106 rfl) ?_
    refine ey_isub (cd_106 rfl) ?_
    obtain ⟨a34, e35, e⟩ := jbind e
    refine ey_rs (s0 := [jI (v32 - 1), jI (jand (jshr v28 4) 15), jR x3]) (s1 := [jI (v32 - 1), jI (jand (jshr v28 4) 15), jR (some a34)]) (by rw [e35]) ?_
    obtain ⟨h36, e37, e⟩ := jbind e
    refine ey_iast (cd_106 rfl) e37 ?_
    refine ey_iinc (cd_106 rfl) mt_106 rfl f4 ?_
    refine ey_goto (cd_106 rfl) rfl ?_
    cases e
    exact K (jup lv 4 (jI (x4 + 1))) f0 f1 f2 (jup_pr (lv := lv) (j := 3) (v := jI (x4 + 1)) (z := x3) f3) rfl
theorem jk_106_l18 {L : Nat} {xs : Nat → Int32} {this : Nat} {x1 : Option Nat} {x2 : Int} {x3 : Option Nat} {x4 : Int} {h : jH} {x : jH} {r : mm_R} (e : jd_106_l18 this x1 x2 x3 x4 h = some x) (K : (∀ lv : jL, lv 2 = some (jI x2) → lv 3 = some (jR x3) → ey (mm_xt L xs) 0 106 66 lv [] x r)) : ∀ lv : jL, lv 0 = some (jR (some this)) → lv 1 = some (jR x1) → lv 2 = some (jI x2) → lv 3 = some (jR x3) → lv 4 = some (jI x4) → ey (mm_xt L xs) 0 106 18 lv [] h r := by
  unfold jd_106_l18 at e
  exact jlp_ok2 (P := fun s => ∀ lv : jL, lv 0 = some (jR (some this)) → lv 1 = some (jR x1) → lv 2 = some (jI x2) → lv 3 = some (jR x3) → lv 4 = some (jI s.1) → ey (mm_xt L xs) 0 106 18 lv [] s.2 r) (Q := fun x => (∀ lv : jL, lv 2 = some (jI x2) → lv 3 = some (jR x3) → ey (mm_xt L xs) 0 106 66 lv [] x r)) (fun s q hq hk => jk_106_s18 hq hk) jfu _ x e K
set_option maxRecDepth 100000 in
theorem jk_106_s72 {L : Nat} {xs : Nat → Int32} {this : Nat} {x2 : Int} {x3 : Option Nat} {x4 : Int} {x5 : Int} {h : jH} {o : ((Int × Int) ⊕ Int)} {r : mm_R} (e : jd_106_s72 this x2 x3 x4 x5 h = some o) (K : jsm (fun s => (∀ lv : jL, lv 2 = some (jI x2) → lv 3 = some (jR x3) → lv 4 = some (jI s.1) → lv 5 = some (jI s.2) → ey (mm_xt L xs) 0 106 72 lv [] h r)) (fun x => (∀ lv : jL, lv 2 = some (jI x2) → lv 4 = some (jI x) → ey (mm_xt L xs) 0 106 97 lv [] h r)) o) : ∀ lv : jL, lv 2 = some (jI x2) → lv 3 = some (jR x3) → lv 4 = some (jI x4) → lv 5 = some (jI x5) → ey (mm_xt L xs) 0 106 72 lv [] h r := by
  intro lv f2 f3 f4 f5
  unfold jd_106_s72 at e
  refine ey_iload (cd_106 rfl) f5 ?_
  refine ey_bipush (cd_106 rfl) (by decide) ?_
  by_cases q40 : 16 ≤ (jw x5)
  · rw [if_pos q40] at e
    refine ey_cge (cd_106 rfl) rfl rfl (show jw 16 = 16 from by decide) q40 ?_
    cases e
    exact K lv f2 f4
  · rw [if_neg q40] at e
    refine ey_nge (cd_106 rfl) rfl rfl (show jw 16 = 16 from by decide) q40 ?_
    refine ey_iload (cd_106 rfl) f4 ?_
    refine ey_aload_n (cd_106 rfl) f3 ?_
    refine ey_iload (cd_106 rfl) f5 ?_
    obtain ⟨a41, e42, e⟩ := jbind e
    refine ey_rs (s0 := [jI x5, jR x3, jI x4]) (s1 := [jI x5, jR (some a41), jI x4]) (by rw [e42]) ?_
    obtain ⟨v43, e44, e⟩ := jbind e
    refine ey_iald (cd_106 rfl) e44 ?_
    refine ey_abs (cd_106 rfl) mt_106 rfl (jsml_s rfl) ?_
    refine ey_iadd (cd_106 rfl) ?_
    obtain ⟨z45, e46, e⟩ := jbind e
    refine ey_rs (s0 := [jI (x4 + (if 0 ≤ jw v43 then v43 else -v43))]) (s1 := [jI z45]) (by rw [show (x4 + (if 0 ≤ jw v43 then v43 else -v43)) = z45 from Option.some.inj e46]) ?_
    refine ey_istore (cd_106 rfl) mt_106 rfl ?_
    refine ey_iinc (cd_106 rfl) mt_106 rfl f5 ?_
    refine ey_goto (cd_106 rfl) rfl ?_
    cases e
    exact K (jup (jup lv 4 (jI z45)) 5 (jI (x5 + 1))) f2 (jup_o rfl (jup_pr (lv := lv) (j := 3) (v := jI z45) (z := x3) f3)) (jup_pi (lv := (jup lv 4 (jI z45))) (j := 4) (v := jI (x5 + 1)) (z := z45) rfl) rfl
theorem jk_106_l72 {L : Nat} {xs : Nat → Int32} {this : Nat} {x2 : Int} {x3 : Option Nat} {x4 : Int} {x5 : Int} {h : jH} {x : Int} {r : mm_R} (e : jd_106_l72 this x2 x3 x4 x5 h = some x) (K : (∀ lv : jL, lv 2 = some (jI x2) → lv 4 = some (jI x) → ey (mm_xt L xs) 0 106 97 lv [] h r)) : ∀ lv : jL, lv 2 = some (jI x2) → lv 3 = some (jR x3) → lv 4 = some (jI x4) → lv 5 = some (jI x5) → ey (mm_xt L xs) 0 106 72 lv [] h r := by
  unfold jd_106_l72 at e
  exact jlp_ok2 (P := fun s => ∀ lv : jL, lv 2 = some (jI x2) → lv 3 = some (jR x3) → lv 4 = some (jI s.1) → lv 5 = some (jI s.2) → ey (mm_xt L xs) 0 106 72 lv [] h r) (Q := fun x => (∀ lv : jL, lv 2 = some (jI x2) → lv 4 = some (jI x) → ey (mm_xt L xs) 0 106 97 lv [] h r)) (fun s q hq hk => jk_106_s72 hq hk) jfu _ x e K
set_option maxRecDepth 100000 in
theorem ok_106 {L : Nat} {xs : Nat → Int32} {this : Nat} {p0 : Option Nat} {h : jH} {o : (Int × jH)} (e : jd_106 this p0 h = some o) : mm_Runs (mm_xt L xs) 1 106 ([jR (some this), jR p0].map jcv) (jaH h) (.inl (some (jcv (jI o.1)), jaH o.2)) := by
  refine ey_run0 _ mt_106 (jsl_s rfl) ?_
  unfold jd_106 at e
  refine ey_aload_n (cd_106 rfl) rfl ?_
  obtain ⟨v1, e2, e⟩ := jbind e
  refine ey_getf_i (cd_106 rfl) mt_106 rfl rfl rfl e2 ?_
  refine ey_aload_n (cd_106 rfl) rfl ?_
  obtain ⟨v3, e4, e⟩ := jbind e
  refine ey_getf_i (cd_106 rfl) mt_106 rfl rfl rfl e4 ?_
  refine ey_imul (cd_106 rfl) ?_
  refine ey_istore_n (cd_106 rfl) mt_106 rfl ?_
  refine ey_bipush (cd_106 rfl) (by decide) ?_
  obtain ⟨n5, e6, e⟩ := jbind e
  refine ey_newarr (cd_106 rfl) (by decide) e6 ?_
  refine ey_astore_n (cd_106 rfl) mt_106 rfl ?_
  refine ey_iconst (cd_106 rfl) ?_
  refine ey_istore (cd_106 rfl) mt_106 rfl ?_
  obtain ⟨x38, e39, e⟩ := jbind e
  refine jk_106_l18 e39 ?_ (jup (jup (jup (jlf (jla 0 [jR (some this), jR p0])) 2 (jI (v1 * v3))) 3 (jR (some n5.1))) 4 (jI 0)) rfl (jup_o rfl (jup_o rfl (jup_pr (lv := (jlf (jla 0 [jR (some this), jR p0]))) (j := 1) (v := jI (v1 * v3)) (z := p0) rfl))) (jup_o rfl (jup_pi (lv := (jup (jlf (jla 0 [jR (some this), jR p0])) 2 (jI (v1 * v3)))) (j := 2) (v := jR (some n5.1)) (z := (v1 * v3)) rfl)) (jup_pr (lv := (jup (jup (jlf (jla 0 [jR (some this), jR p0])) 2 (jI (v1 * v3))) 3 (jR (some n5.1)))) (j := 3) (v := jI 0) (z := (some n5.1)) rfl) rfl
  intro lv g2 g3
  refine ey_iconst (cd_106 rfl) ?_
  refine ey_istore (cd_106 rfl) mt_106 rfl ?_
  refine ey_iconst (cd_106 rfl) ?_
  refine ey_istore (cd_106 rfl) mt_106 rfl ?_
  obtain ⟨x47, e48, e⟩ := jbind e
  refine jk_106_l72 e48 ?_ (jup (jup lv 4 (jI 0)) 5 (jI 0)) g2 (jup_o rfl (jup_pr (lv := lv) (j := 3) (v := jI 0) (z := (some n5.1)) g3)) (jup_pi (lv := (jup lv 4 (jI 0))) (j := 4) (v := jI 0) (z := 0) rfl) rfl
  intro lv g2 g4
  refine ey_iload (cd_106 rfl) g4 ?_
  refine ey_iload_n (cd_106 rfl) g2 ?_
  have K49 : ∀ lv : jL, ey (mm_xt L xs) 0 106 108 lv [jI (if (jw x47) ≤ (jw (v1 * v3)) then 0 else 1)] x38 (.inl (some (jcv (jI o.1)), jaH o.2)) := by
    intro lv 
    cases e
    exact ey_retz (cd_106 rfl) mt_106 rfl (jbo_ite (Or.inl rfl) (Or.inr rfl))
  by_cases q50 : (jw x47) ≤ (jw (v1 * v3))
  · refine ey_cle (cd_106 rfl) rfl rfl rfl q50 ?_
    refine ey_iconst (cd_106 rfl) ?_
    exact ey_rs (s0 := [jI 0]) (s1 := [jI (if (jw x47) ≤ (jw (v1 * v3)) then 0 else 1)]) (by rw [show ((if (jw x47) ≤ (jw (v1 * v3)) then 0 else 1) : Int) = 0 from (if_pos q50)]) (K49 lv )
  · refine ey_nle (cd_106 rfl) rfl rfl rfl q50 ?_
    refine ey_iconst (cd_106 rfl) ?_
    refine ey_goto (cd_106 rfl) rfl ?_
    exact ey_rs (s0 := [jI 1]) (s1 := [jI (if (jw x47) ≤ (jw (v1 * v3)) then 0 else 1)]) (by rw [show ((if (jw x47) ≤ (jw (v1 * v3)) then 0 else 1) : Int) = 1 from (if_neg q50)]) (K49 lv )
theorem cd_108 {pc : Nat} {i : Instr × Nat} (h : mm_lk mm_c108 pc = some i) : mm_cd 108 pc = some i := h
theorem mt_108 : mm_MT 108 = (6, 12, some .int, 5, 0, []) := rfl
set_option maxRecDepth 100000 in
theorem jk_108_s55 {L : Nat} {xs : Nat → Int32} {this : Nat} {x1 : Option Nat} {x3 : Int} {x4 : Int} {x5 : Int} {x7 : Int} {x8 : Int} {x10 : Int} {x9 : Int} {x11 : Int} {h : jH} {o : ((Int × Int) ⊕ Int)} {r : mm_R} (e : jd_108_s55 this x1 x3 x4 x5 x7 x8 x10 x9 x11 h = some o) (K : jsm (fun s => (∀ lv : jL, lv 0 = some (jR (some this)) → lv 1 = some (jR x1) → lv 3 = some (jI x3) → lv 4 = some (jI x4) → lv 5 = some (jI x5) → lv 7 = some (jI x7) → lv 8 = some (jI x8) → lv 9 = some (jI s.1) → lv 10 = some (jI x10) → lv 11 = some (jI s.2) → ey (mm_xt L xs) 2 108 55 lv [] h r)) (fun x => (∀ lv : jL, lv 0 = some (jR (some this)) → lv 1 = some (jR x1) → lv 3 = some (jI x3) → lv 4 = some (jI x4) → lv 5 = some (jI x5) → lv 7 = some (jI x7) → lv 8 = some (jI x8) → lv 9 = some (jI x) → lv 10 = some (jI x10) → ey (mm_xt L xs) 2 108 111 lv [] h r)) o) : ∀ lv : jL, lv 0 = some (jR (some this)) → lv 1 = some (jR x1) → lv 3 = some (jI x3) → lv 4 = some (jI x4) → lv 5 = some (jI x5) → lv 7 = some (jI x7) → lv 8 = some (jI x8) → lv 9 = some (jI x9) → lv 10 = some (jI x10) → lv 11 = some (jI x11) → ey (mm_xt L xs) 2 108 55 lv [] h r := by
  intro lv f0 f1 f3 f4 f5 f7 f8 f9 f10 f11
  unfold jd_108_s55 at e
  refine ey_iload (cd_108 rfl) f11 ?_
  refine ey_iload (cd_108 rfl) f7 ?_
  refine ey_bipush (cd_108 rfl) (by decide) ?_
  refine ey_iadd (cd_108 rfl) ?_
  by_cases q9 : (jw (x7 + 8)) ≤ (jw x11)
  · rw [if_pos q9] at e
    refine ey_cge (cd_108 rfl) rfl rfl rfl q9 ?_
    cases e
    exact K lv f0 f1 f3 f4 f5 f7 f8 f9 f10
  · rw [if_neg q9] at e
    refine ey_nge (cd_108 rfl) rfl rfl rfl q9 ?_
    refine ey_iload (cd_108 rfl) f9 ?_
    refine ey_aload_n (cd_108 rfl) f0 ?_
    obtain ⟨r10, e11, e⟩ := jbind e
    refine ey_getf_r (cd_108 rfl) mt_108 rfl rfl rfl e11 ?_
    refine ey_iload (cd_108 rfl) f10 ?_
    refine ey_aload_n (cd_108 rfl) f0 ?_
    obtain ⟨v12, e13, e⟩ := jbind e
    refine ey_getf_i (cd_108 rfl) mt_108 rfl rfl rfl e13 ?_
    refine ey_imul (cd_108 rfl) ?_
    refine ey_iload (cd_108 rfl) f11 ?_
    refine ey_iadd (cd_108 rfl) ?_
    obtain ⟨a14, e15, e⟩ := jbind e
    refine ey_rs (s0 := [jI ((x10 * v12) + x11), jR r10, jI x9]) (s1 := [jI ((x10 * v12) + x11), jR (some a14), jI x9]) (by rw [e15]) ?_
    obtain ⟨v16, e17, e⟩ := jbind e
    refine ey_iald (cd_108 rfl) e17 ?_
    refine ey_aload_n (cd_108 rfl) f1 ?_
    refine ey_iconst (cd_108 rfl) ?_
    refine ey_iload (cd_108 rfl) f11 ?_
    refine ey_iload_n (cd_108 rfl) f3 ?_
    refine ey_iadd (cd_108 rfl) ?_
    refine ey_i2l (cd_108 rfl) ?_
    refine ey_iload (cd_108 rfl) f10 ?_
    refine ey_iload (cd_108 rfl) f4 ?_
    refine ey_iadd (cd_108 rfl) ?_
    refine ey_i2l (cd_108 rfl) ?_
    obtain ⟨a18, e19, e⟩ := jbind e
    refine ey_rs (s0 := [jJ (jw (x10 + x4)), jJ (jw (x11 + x3)), jI 0, jR x1, jI v16, jI x9]) (s1 := [jJ (jw (x10 + x4)), jJ (jw (x11 + x3)), jI 0, jR (some a18), jI v16, jI x9]) (by rw [e19]) ?_
    obtain ⟨u20, e21, e⟩ := jbind e
    obtain ⟨v22, e23, e⟩ := jbind e
    refine ey_cv (s0 := [jJ (jw (x10 + x4)), jJ (jw (x11 + x3)), jI 0, jR (some a18), jI v16, jI x9]) (s1 := [jI v16, jI x9]) (st' := [jI v22, jI v16, jI x9]) (cd_108 rfl) mt_108 mt_103 rfl rfl rfl (jck_s e21) rfl (jsml_s rfl) rfl (ok_103 e23) ?_
    refine ey_isub (cd_108 rfl) ?_
    refine ey_abs (cd_108 rfl) mt_108 rfl (jsml_s rfl) ?_
    refine ey_iadd (cd_108 rfl) ?_
    obtain ⟨z24, e25, e⟩ := jbind e
    refine ey_rs (s0 := [jI (x9 + (if 0 ≤ jw (v16 - v22) then (v16 - v22) else -(v16 - v22)))]) (s1 := [jI z24]) (by rw [show (x9 + (if 0 ≤ jw (v16 - v22) then (v16 - v22) else -(v16 - v22))) = z24 from Option.some.inj e25]) ?_
    refine ey_istore (cd_108 rfl) mt_108 rfl ?_
    refine ey_iinc (cd_108 rfl) mt_108 rfl f11 ?_
    refine ey_goto (cd_108 rfl) rfl ?_
    cases e
    exact K (jup (jup lv 9 (jI z24)) 11 (jI (x11 + 1))) f0 f1 f3 f4 f5 f7 (jup_o rfl (jup_pi (lv := lv) (j := 8) (v := jI z24) (z := x8) f8)) rfl (jup_pi (lv := (jup lv 9 (jI z24))) (j := 10) (v := jI (x11 + 1)) (z := x10) f10) rfl
theorem jk_108_l55 {L : Nat} {xs : Nat → Int32} {this : Nat} {x1 : Option Nat} {x3 : Int} {x4 : Int} {x5 : Int} {x7 : Int} {x8 : Int} {x10 : Int} {x9 : Int} {x11 : Int} {h : jH} {x : Int} {r : mm_R} (e : jd_108_l55 this x1 x3 x4 x5 x7 x8 x10 x9 x11 h = some x) (K : (∀ lv : jL, lv 0 = some (jR (some this)) → lv 1 = some (jR x1) → lv 3 = some (jI x3) → lv 4 = some (jI x4) → lv 5 = some (jI x5) → lv 7 = some (jI x7) → lv 8 = some (jI x8) → lv 9 = some (jI x) → lv 10 = some (jI x10) → ey (mm_xt L xs) 2 108 111 lv [] h r)) : ∀ lv : jL, lv 0 = some (jR (some this)) → lv 1 = some (jR x1) → lv 3 = some (jI x3) → lv 4 = some (jI x4) → lv 5 = some (jI x5) → lv 7 = some (jI x7) → lv 8 = some (jI x8) → lv 9 = some (jI x9) → lv 10 = some (jI x10) → lv 11 = some (jI x11) → ey (mm_xt L xs) 2 108 55 lv [] h r := by
  unfold jd_108_l55 at e
  exact jlp_ok2 (P := fun s => ∀ lv : jL, lv 0 = some (jR (some this)) → lv 1 = some (jR x1) → lv 3 = some (jI x3) → lv 4 = some (jI x4) → lv 5 = some (jI x5) → lv 7 = some (jI x7) → lv 8 = some (jI x8) → lv 9 = some (jI s.1) → lv 10 = some (jI x10) → lv 11 = some (jI s.2) → ey (mm_xt L xs) 2 108 55 lv [] h r) (Q := fun x => (∀ lv : jL, lv 0 = some (jR (some this)) → lv 1 = some (jR x1) → lv 3 = some (jI x3) → lv 4 = some (jI x4) → lv 5 = some (jI x5) → lv 7 = some (jI x7) → lv 8 = some (jI x8) → lv 9 = some (jI x) → lv 10 = some (jI x10) → ey (mm_xt L xs) 2 108 111 lv [] h r)) (fun s q hq hk => jk_108_s55 hq hk) jfu _ x e K
set_option maxRecDepth 100000 in
theorem jk_108_s34 {L : Nat} {xs : Nat → Int32} {this : Nat} {x1 : Option Nat} {x3 : Int} {x4 : Int} {x5 : Int} {x7 : Int} {x8 : Int} {x9 : Int} {x10 : Int} {h : jH} {o : ((Int × Int) ⊕ Int)} {r : mm_R} (e : jd_108_s34 this x1 x3 x4 x5 x7 x8 x9 x10 h = some o) (K : jsm (fun s => (∀ lv : jL, lv 0 = some (jR (some this)) → lv 1 = some (jR x1) → lv 3 = some (jI x3) → lv 4 = some (jI x4) → lv 5 = some (jI x5) → lv 7 = some (jI x7) → lv 8 = some (jI x8) → lv 9 = some (jI s.1) → lv 10 = some (jI s.2) → ey (mm_xt L xs) 2 108 34 lv [] h r)) (fun x => (∀ lv : jL, lv 9 = some (jI x) → ey (mm_xt L xs) 2 108 117 lv [] h r)) o) : ∀ lv : jL, lv 0 = some (jR (some this)) → lv 1 = some (jR x1) → lv 3 = some (jI x3) → lv 4 = some (jI x4) → lv 5 = some (jI x5) → lv 7 = some (jI x7) → lv 8 = some (jI x8) → lv 9 = some (jI x9) → lv 10 = some (jI x10) → ey (mm_xt L xs) 2 108 34 lv [] h r := by
  intro lv f0 f1 f3 f4 f5 f7 f8 f9 f10
  unfold jd_108_s34 at e
  refine ey_iload (cd_108 rfl) f10 ?_
  refine ey_iload (cd_108 rfl) f8 ?_
  refine ey_bipush (cd_108 rfl) (by decide) ?_
  refine ey_iadd (cd_108 rfl) ?_
  by_cases q7 : (jw (x8 + 8)) ≤ (jw x10)
  · rw [if_pos q7] at e
    refine ey_cge (cd_108 rfl) rfl rfl rfl q7 ?_
    cases e
    exact K lv f9
  · rw [if_neg q7] at e
    refine ey_nge (cd_108 rfl) rfl rfl rfl q7 ?_
    refine ey_iload (cd_108 rfl) f9 ?_
    refine ey_iload (cd_108 rfl) f5 ?_
    by_cases q8 : (jw x5) < (jw x9)
    · rw [if_pos q8] at e
      refine ey_cgt (cd_108 rfl) rfl rfl rfl q8 ?_
      cases e
      exact K lv f9
    · rw [if_neg q8] at e
      refine ey_ngt (cd_108 rfl) rfl rfl rfl q8 ?_
      refine ey_iload (cd_108 rfl) f7 ?_
      refine ey_istore (cd_108 rfl) mt_108 rfl ?_
      obtain ⟨x26, e27, e⟩ := jbind e
      refine jk_108_l55 e27 ?_ (jup lv 11 (jI x7)) f0 f1 f3 f4 f5 f7 f8 f9 (jup_pi (lv := lv) (j := 10) (v := jI x7) (z := x10) f10) rfl
      intro lv g0 g1 g3 g4 g5 g7 g8 g9 g10
      refine ey_iinc (cd_108 rfl) mt_108 rfl g10 ?_
      refine ey_goto (cd_108 rfl) rfl ?_
      cases e
      exact K (jup lv 10 (jI (x10 + 1))) g0 g1 g3 g4 g5 g7 g8 (jup_pi (lv := lv) (j := 9) (v := jI (x10 + 1)) (z := x26) g9) rfl
theorem jk_108_l34 {L : Nat} {xs : Nat → Int32} {this : Nat} {x1 : Option Nat} {x3 : Int} {x4 : Int} {x5 : Int} {x7 : Int} {x8 : Int} {x9 : Int} {x10 : Int} {h : jH} {x : Int} {r : mm_R} (e : jd_108_l34 this x1 x3 x4 x5 x7 x8 x9 x10 h = some x) (K : (∀ lv : jL, lv 9 = some (jI x) → ey (mm_xt L xs) 2 108 117 lv [] h r)) : ∀ lv : jL, lv 0 = some (jR (some this)) → lv 1 = some (jR x1) → lv 3 = some (jI x3) → lv 4 = some (jI x4) → lv 5 = some (jI x5) → lv 7 = some (jI x7) → lv 8 = some (jI x8) → lv 9 = some (jI x9) → lv 10 = some (jI x10) → ey (mm_xt L xs) 2 108 34 lv [] h r := by
  unfold jd_108_l34 at e
  exact jlp_ok2 (P := fun s => ∀ lv : jL, lv 0 = some (jR (some this)) → lv 1 = some (jR x1) → lv 3 = some (jI x3) → lv 4 = some (jI x4) → lv 5 = some (jI x5) → lv 7 = some (jI x7) → lv 8 = some (jI x8) → lv 9 = some (jI s.1) → lv 10 = some (jI s.2) → ey (mm_xt L xs) 2 108 34 lv [] h r) (Q := fun x => (∀ lv : jL, lv 9 = some (jI x) → ey (mm_xt L xs) 2 108 117 lv [] h r)) (fun s q hq hk => jk_108_s34 hq hk) jfu _ x e K
set_option maxRecDepth 100000 in
theorem ok_108 {L : Nat} {xs : Nat → Int32} {this : Nat} {p0 : Option Nat} {p1 : Int} {p2 : Int} {p3 : Int} {p4 : Int} {h : jH} {o : Int} (e : jd_108 this p0 p1 p2 p3 p4 h = some o) : mm_Runs (mm_xt L xs) 3 108 ([jR (some this), jR p0, jI p1, jI p2, jI p3, jI p4].map jcv) (jaH h) (.inl (some (jcv (jI o)), jaH h)) := by
  refine ey_run0 _ mt_108 (jsl_s rfl) ?_
  unfold jd_108 at e
  refine ey_aload_n (cd_108 rfl) rfl ?_
  obtain ⟨v1, e2, e⟩ := jbind e
  refine ey_getf_i (cd_108 rfl) mt_108 rfl rfl rfl e2 ?_
  refine ey_bipush (cd_108 rfl) (by decide) ?_
  refine ey_idiv (cd_108 rfl) (by decide) ?_
  refine ey_istore (cd_108 rfl) mt_108 rfl ?_
  refine ey_iload_n (cd_108 rfl) rfl ?_
  refine ey_iload (cd_108 rfl) rfl ?_
  obtain ⟨u3, e4, e⟩ := jbind e
  refine ey_irem (cd_108 rfl) (jnz_s e4) ?_
  refine ey_bipush (cd_108 rfl) (by decide) ?_
  refine ey_imul (cd_108 rfl) ?_
  refine ey_istore (cd_108 rfl) mt_108 rfl ?_
  refine ey_iload_n (cd_108 rfl) rfl ?_
  refine ey_iload (cd_108 rfl) (jup_pi (lv := (jup (jlf (jla 0 [jR (some this), jR p0, jI p1, jI p2, jI p3, jI p4])) 6 (jI (jdiv v1 8)))) (j := 6) (v := jI ((jrem p1 (jdiv v1 8)) * 8)) (z := (jdiv v1 8)) rfl) ?_
  obtain ⟨u5, e6, e⟩ := jbind e
  refine ey_idiv (cd_108 rfl) (jnz_s e6) ?_
  refine ey_bipush (cd_108 rfl) (by decide) ?_
  refine ey_imul (cd_108 rfl) ?_
  refine ey_istore (cd_108 rfl) mt_108 rfl ?_
  refine ey_iconst (cd_108 rfl) ?_
  refine ey_istore (cd_108 rfl) mt_108 rfl ?_
  refine ey_iload (cd_108 rfl) (jup_pi (lv := (jup (jup (jup (jlf (jla 0 [jR (some this), jR p0, jI p1, jI p2, jI p3, jI p4])) 6 (jI (jdiv v1 8))) 7 (jI ((jrem p1 (jdiv v1 8)) * 8))) 8 (jI ((jdiv p1 (jdiv v1 8)) * 8)))) (j := 8) (v := jI 0) (z := ((jdiv p1 (jdiv v1 8)) * 8)) rfl) ?_
  refine ey_istore (cd_108 rfl) mt_108 rfl ?_
  obtain ⟨x28, e29, e⟩ := jbind e
  refine jk_108_l34 e29 ?_ (jup (jup (jup (jup (jup (jlf (jla 0 [jR (some this), jR p0, jI p1, jI p2, jI p3, jI p4])) 6 (jI (jdiv v1 8))) 7 (jI ((jrem p1 (jdiv v1 8)) * 8))) 8 (jI ((jdiv p1 (jdiv v1 8)) * 8))) 9 (jI 0)) 10 (jI ((jdiv p1 (jdiv v1 8)) * 8))) rfl rfl rfl rfl (jup_o rfl (jup_o rfl (jup_o rfl (jup_o rfl (jup_pi (lv := (jlf (jla 0 [jR (some this), jR p0, jI p1, jI p2, jI p3, jI p4]))) (j := 5) (v := jI (jdiv v1 8)) (z := p4) rfl))))) (jup_o rfl (jup_o rfl (jup_pi (lv := (jup (jup (jlf (jla 0 [jR (some this), jR p0, jI p1, jI p2, jI p3, jI p4])) 6 (jI (jdiv v1 8))) 7 (jI ((jrem p1 (jdiv v1 8)) * 8)))) (j := 7) (v := jI ((jdiv p1 (jdiv v1 8)) * 8)) (z := ((jrem p1 (jdiv v1 8)) * 8)) rfl))) (jup_o rfl (jup_pi (lv := (jup (jup (jup (jlf (jla 0 [jR (some this), jR p0, jI p1, jI p2, jI p3, jI p4])) 6 (jI (jdiv v1 8))) 7 (jI ((jrem p1 (jdiv v1 8)) * 8))) 8 (jI ((jdiv p1 (jdiv v1 8)) * 8)))) (j := 8) (v := jI 0) (z := ((jdiv p1 (jdiv v1 8)) * 8)) rfl)) (jup_pi (lv := (jup (jup (jup (jup (jlf (jla 0 [jR (some this), jR p0, jI p1, jI p2, jI p3, jI p4])) 6 (jI (jdiv v1 8))) 7 (jI ((jrem p1 (jdiv v1 8)) * 8))) 8 (jI ((jdiv p1 (jdiv v1 8)) * 8))) 9 (jI 0))) (j := 9) (v := jI ((jdiv p1 (jdiv v1 8)) * 8)) (z := 0) rfl) rfl
  intro lv g9
  refine ey_iload (cd_108 rfl) g9 ?_
  cases e
  exact ey_reti (cd_108 rfl) mt_108 rfl
theorem cd_107 {pc : Nat} {i : Instr × Nat} (h : mm_lk mm_c107 pc = some i) : mm_cd 107 pc = some i := h
theorem mt_107 : mm_MT 107 = (6, 12, some .int, 3, 0, []) := rfl
set_option maxRecDepth 100000 in
theorem jk_107_b111 {L : Nat} {xs : Nat → Int32} {this : Nat} {x1 : Option Nat} {x2 : Int} {x3 : Int} {x4 : Int} {x5 : Int} {x6 : Int} {x7 : Int} {x8 : Int} {h : jH} {o : ((Int × Int × Int × Int) ⊕ (Int × Int × Int))} {r : mm_R} (e : jd_107_b111 this x1 x2 x3 x4 x5 x6 x7 x8 h = some o) (K : jsm (fun s => (∀ lv : jL, lv 0 = some (jR (some this)) → lv 1 = some (jR x1) → lv 2 = some (jI x2) → lv 3 = some (jI x3) → lv 4 = some (jI s.1) → lv 5 = some (jI s.2.1) → lv 6 = some (jI s.2.2.1) → lv 7 = some (jI x7) → lv 8 = some (jI s.2.2.2) → ey (mm_xt L xs) 3 107 32 lv [] h r)) (fun x => (∀ lv : jL, lv 0 = some (jR (some this)) → lv 1 = some (jR x1) → lv 2 = some (jI x2) → lv 3 = some (jI x3) → lv 4 = some (jI x.1) → lv 5 = some (jI x.2.1) → lv 6 = some (jI x.2.2) → lv 7 = some (jI x7) → ey (mm_xt L xs) 3 107 117 lv [] h r)) o) : ∀ lv : jL, lv 0 = some (jR (some this)) → lv 1 = some (jR x1) → lv 2 = some (jI x2) → lv 3 = some (jI x3) → lv 4 = some (jI x4) → lv 5 = some (jI x5) → lv 6 = some (jI x6) → lv 7 = some (jI x7) → lv 8 = some (jI x8) → ey (mm_xt L xs) 3 107 111 lv [] h r := by
  intro lv f0 f1 f2 f3 f4 f5 f6 f7 f8
  unfold jd_107_b111 at e
  refine ey_iinc (cd_107 rfl) mt_107 rfl f8 ?_
  refine ey_goto (cd_107 rfl) rfl ?_
  cases e
  exact K (jup lv 8 (jI (x8 + 1))) f0 f1 f2 f3 f4 f5 f6 (jup_pi (lv := lv) (j := 7) (v := jI (x8 + 1)) (z := x7) f7) rfl
set_option maxRecDepth 100000 in
theorem jk_107_s32 {L : Nat} {xs : Nat → Int32} {this : Nat} {x1 : Option Nat} {x2 : Int} {x3 : Int} {x7 : Int} {x4 : Int} {x5 : Int} {x6 : Int} {x8 : Int} {h : jH} {o : ((Int × Int × Int × Int) ⊕ (Int × Int × Int))} {r : mm_R} (e : jd_107_s32 this x1 x2 x3 x7 x4 x5 x6 x8 h = some o) (K : jsm (fun s => (∀ lv : jL, lv 0 = some (jR (some this)) → lv 1 = some (jR x1) → lv 2 = some (jI x2) → lv 3 = some (jI x3) → lv 4 = some (jI s.1) → lv 5 = some (jI s.2.1) → lv 6 = some (jI s.2.2.1) → lv 7 = some (jI x7) → lv 8 = some (jI s.2.2.2) → ey (mm_xt L xs) 3 107 32 lv [] h r)) (fun x => (∀ lv : jL, lv 0 = some (jR (some this)) → lv 1 = some (jR x1) → lv 2 = some (jI x2) → lv 3 = some (jI x3) → lv 4 = some (jI x.1) → lv 5 = some (jI x.2.1) → lv 6 = some (jI x.2.2) → lv 7 = some (jI x7) → ey (mm_xt L xs) 3 107 117 lv [] h r)) o) : ∀ lv : jL, lv 0 = some (jR (some this)) → lv 1 = some (jR x1) → lv 2 = some (jI x2) → lv 3 = some (jI x3) → lv 4 = some (jI x4) → lv 5 = some (jI x5) → lv 6 = some (jI x6) → lv 7 = some (jI x7) → lv 8 = some (jI x8) → ey (mm_xt L xs) 3 107 32 lv [] h r := by
  intro lv f0 f1 f2 f3 f4 f5 f6 f7 f8
  unfold jd_107_s32 at e
  refine ey_iload (cd_107 rfl) f8 ?_
  refine ey_iconst (cd_107 rfl) ?_
  by_cases q6 : 4 < (jw x8)
  · rw [if_pos q6] at e
    refine ey_cgt (cd_107 rfl) rfl rfl (show jw 4 = 4 from by decide) q6 ?_
    cases e
    exact K lv f0 f1 f2 f3 f4 f5 f6 f7
  · rw [if_neg q6] at e
    refine ey_ngt (cd_107 rfl) rfl rfl (show jw 4 = 4 from by decide) q6 ?_
    refine ey_aload_n (cd_107 rfl) f0 ?_
    refine ey_aload_n (cd_107 rfl) f1 ?_
    refine ey_iload_n (cd_107 rfl) f2 ?_
    refine ey_iload (cd_107 rfl) f8 ?_
    refine ey_iload (cd_107 rfl) f7 ?_
    refine ey_iload (cd_107 rfl) f6 ?_
    obtain ⟨u7, e8, e⟩ := jbind e
    obtain ⟨v9, e10, e⟩ := jbind e
    refine ey_cv (s0 := [jI x6, jI x7, jI x8, jI x2, jR x1, jR (some this)]) (s1 := []) (st' := [jI v9]) (cd_107 rfl) mt_107 mt_108 rfl rfl rfl (jck_s e8) rfl (jsml_s rfl) rfl (ok_108 e10) ?_
    refine ey_istore (cd_107 rfl) mt_107 rfl ?_
    refine ey_iload (cd_107 rfl) (jup_pi (lv := lv) (j := 8) (v := jI v9) (z := x8) f8) ?_
    refine ey_abs (cd_107 rfl) mt_107 rfl (jsml_s rfl) ?_
    refine ey_iload (cd_107 rfl) f7 ?_
    refine ey_abs (cd_107 rfl) mt_107 rfl (jsml_s rfl) ?_
    refine ey_iadd (cd_107 rfl) ?_
    obtain ⟨z11, e12, e⟩ := jbind e
    refine ey_rs (s0 := [jI ((if 0 ≤ jw x8 then x8 else -x8) + (if 0 ≤ jw x7 then x7 else -x7))]) (s1 := [jI z11]) (by rw [show ((if 0 ≤ jw x8 then x8 else -x8) + (if 0 ≤ jw x7 then x7 else -x7)) = z11 from Option.some.inj e12]) ?_
    refine ey_istore (cd_107 rfl) mt_107 rfl ?_
    refine ey_iload (cd_107 rfl) f4 ?_
    refine ey_abs (cd_107 rfl) mt_107 rfl (jsml_s rfl) ?_
    refine ey_iload (cd_107 rfl) f5 ?_
    refine ey_abs (cd_107 rfl) mt_107 rfl (jsml_s rfl) ?_
    refine ey_iadd (cd_107 rfl) ?_
    obtain ⟨z13, e14, e⟩ := jbind e
    refine ey_rs (s0 := [jI ((if 0 ≤ jw x4 then x4 else -x4) + (if 0 ≤ jw x5 then x5 else -x5))]) (s1 := [jI z13]) (by rw [show ((if 0 ≤ jw x4 then x4 else -x4) + (if 0 ≤ jw x5 then x5 else -x5)) = z13 from Option.some.inj e14]) ?_
    refine ey_istore (cd_107 rfl) mt_107 rfl ?_
    refine ey_iload (cd_107 rfl) (jup_o rfl (jup_pi (lv := (jup lv 9 (jI v9))) (j := 9) (v := jI z11) (z := v9) rfl)) ?_
    refine ey_iload (cd_107 rfl) f6 ?_
    have K15 : ∀ lv : jL, lv 0 = some (jR (some this)) → lv 1 = some (jR x1) → lv 2 = some (jI x2) → lv 3 = some (jI x3) → lv 4 = some (jI (if (jw v9) < (jw x6) then x8 else (if (jw v9) = (jw x6) then (if (jw z13) ≤ (jw z11) then x4 else x8) else x4))) → lv 5 = some (jI (if (jw v9) < (jw x6) then x7 else (if (jw v9) = (jw x6) then (if (jw z13) ≤ (jw z11) then x5 else x7) else x5))) → lv 6 = some (jI (if (jw v9) < (jw x6) then v9 else (if (jw v9) = (jw x6) then (if (jw z13) ≤ (jw z11) then x6 else v9) else x6))) → lv 7 = some (jI x7) → lv 8 = some (jI x8) → ey (mm_xt L xs) 3 107 111 lv [] h r := by
      intro lv g0 g1 g2 g3 g4 g5 g6 g7 g8
      exact jk_107_b111 e K lv g0 g1 g2 g3 g4 g5 g6 g7 g8
    by_cases q16 : (jw v9) < (jw x6)
    · refine ey_clt (cd_107 rfl) rfl rfl rfl q16 ?_
      refine ey_iload (cd_107 rfl) (jup_o rfl (jup_pi (lv := (jup lv 9 (jI v9))) (j := 9) (v := jI z11) (z := v9) rfl)) ?_
      refine ey_istore (cd_107 rfl) mt_107 rfl ?_
      refine ey_iload (cd_107 rfl) (jup_o rfl (jup_o rfl (jup_o rfl (jup_pi (lv := lv) (j := 8) (v := jI v9) (z := x8) f8)))) ?_
      refine ey_istore (cd_107 rfl) mt_107 rfl ?_
      refine ey_iload (cd_107 rfl) f7 ?_
      refine ey_istore (cd_107 rfl) mt_107 rfl ?_
      exact K15 (jup (jup (jup (jup (jup (jup lv 9 (jI v9)) 10 (jI z11)) 11 (jI z13)) 6 (jI v9)) 4 (jI x8)) 5 (jI x7)) f0 f1 f2 (jup_o rfl (jup_pi (lv := (jup (jup (jup (jup lv 9 (jI v9)) 10 (jI z11)) 11 (jI z13)) 6 (jI v9))) (j := 3) (v := jI x8) (z := x3) f3)) (Eq.trans (show (jup (jup (jup (jup (jup (jup lv 9 (jI v9)) 10 (jI z11)) 11 (jI z13)) 6 (jI v9)) 4 (jI x8)) 5 (jI x7)) 4 = some (jI x8) from (jup_pi (lv := (jup (jup (jup (jup (jup lv 9 (jI v9)) 10 (jI z11)) 11 (jI z13)) 6 (jI v9)) 4 (jI x8))) (j := 4) (v := jI x7) (z := x8) rfl)) (congrArg (fun z => some (jI z)) (Eq.symm (if_pos q16)))) (Eq.trans (show (jup (jup (jup (jup (jup (jup lv 9 (jI v9)) 10 (jI z11)) 11 (jI z13)) 6 (jI v9)) 4 (jI x8)) 5 (jI x7)) 5 = some (jI x7) from rfl) (congrArg (fun z => some (jI z)) (Eq.symm (if_pos q16)))) (Eq.trans (show (jup (jup (jup (jup (jup (jup lv 9 (jI v9)) 10 (jI z11)) 11 (jI z13)) 6 (jI v9)) 4 (jI x8)) 5 (jI x7)) 6 = some (jI v9) from rfl) (congrArg (fun z => some (jI z)) (Eq.symm (if_pos q16)))) f7 (jup_o rfl (jup_o rfl (jup_o rfl (jup_o rfl (jup_o rfl (jup_pi (lv := lv) (j := 8) (v := jI v9) (z := x8) f8))))))
    · refine ey_nlt (cd_107 rfl) rfl rfl rfl q16 ?_
      refine ey_iload (cd_107 rfl) (jup_o rfl (jup_pi (lv := (jup lv 9 (jI v9))) (j := 9) (v := jI z11) (z := v9) rfl)) ?_
      refine ey_iload (cd_107 rfl) f6 ?_
      by_cases q17 : (jw v9) = (jw x6)
      · refine ey_nne (cd_107 rfl) rfl rfl rfl (fun w => w q17) ?_
        refine ey_iload (cd_107 rfl) (jup_pi (lv := (jup (jup lv 9 (jI v9)) 10 (jI z11))) (j := 10) (v := jI z13) (z := z11) rfl) ?_
        refine ey_iload (cd_107 rfl) rfl ?_
        by_cases q18 : (jw z13) ≤ (jw z11)
        · refine ey_cge (cd_107 rfl) rfl rfl rfl q18 ?_
          exact K15 (jup (jup (jup lv 9 (jI v9)) 10 (jI z11)) 11 (jI z13)) f0 f1 f2 f3 (Eq.trans (show (jup (jup (jup lv 9 (jI v9)) 10 (jI z11)) 11 (jI z13)) 4 = some (jI x4) from f4) (congrArg (fun z => some (jI z)) (Eq.symm ((if_neg q16).trans ((if_pos q17).trans (if_pos q18)))))) (Eq.trans (show (jup (jup (jup lv 9 (jI v9)) 10 (jI z11)) 11 (jI z13)) 5 = some (jI x5) from f5) (congrArg (fun z => some (jI z)) (Eq.symm ((if_neg q16).trans ((if_pos q17).trans (if_pos q18)))))) (Eq.trans (show (jup (jup (jup lv 9 (jI v9)) 10 (jI z11)) 11 (jI z13)) 6 = some (jI x6) from f6) (congrArg (fun z => some (jI z)) (Eq.symm ((if_neg q16).trans ((if_pos q17).trans (if_pos q18)))))) f7 (jup_o rfl (jup_o rfl (jup_pi (lv := lv) (j := 8) (v := jI v9) (z := x8) f8)))
        · refine ey_nge (cd_107 rfl) rfl rfl rfl q18 ?_
          refine ey_iload (cd_107 rfl) (jup_o rfl (jup_pi (lv := (jup lv 9 (jI v9))) (j := 9) (v := jI z11) (z := v9) rfl)) ?_
          refine ey_istore (cd_107 rfl) mt_107 rfl ?_
          refine ey_iload (cd_107 rfl) (jup_o rfl (jup_o rfl (jup_o rfl (jup_pi (lv := lv) (j := 8) (v := jI v9) (z := x8) f8)))) ?_
          refine ey_istore (cd_107 rfl) mt_107 rfl ?_
          refine ey_iload (cd_107 rfl) f7 ?_
          refine ey_istore (cd_107 rfl) mt_107 rfl ?_
          exact K15 (jup (jup (jup (jup (jup (jup lv 9 (jI v9)) 10 (jI z11)) 11 (jI z13)) 6 (jI v9)) 4 (jI x8)) 5 (jI x7)) f0 f1 f2 (jup_o rfl (jup_pi (lv := (jup (jup (jup (jup lv 9 (jI v9)) 10 (jI z11)) 11 (jI z13)) 6 (jI v9))) (j := 3) (v := jI x8) (z := x3) f3)) (Eq.trans (show (jup (jup (jup (jup (jup (jup lv 9 (jI v9)) 10 (jI z11)) 11 (jI z13)) 6 (jI v9)) 4 (jI x8)) 5 (jI x7)) 4 = some (jI x8) from (jup_pi (lv := (jup (jup (jup (jup (jup lv 9 (jI v9)) 10 (jI z11)) 11 (jI z13)) 6 (jI v9)) 4 (jI x8))) (j := 4) (v := jI x7) (z := x8) rfl)) (congrArg (fun z => some (jI z)) (Eq.symm ((if_neg q16).trans ((if_pos q17).trans (if_neg q18)))))) (Eq.trans (show (jup (jup (jup (jup (jup (jup lv 9 (jI v9)) 10 (jI z11)) 11 (jI z13)) 6 (jI v9)) 4 (jI x8)) 5 (jI x7)) 5 = some (jI x7) from rfl) (congrArg (fun z => some (jI z)) (Eq.symm ((if_neg q16).trans ((if_pos q17).trans (if_neg q18)))))) (Eq.trans (show (jup (jup (jup (jup (jup (jup lv 9 (jI v9)) 10 (jI z11)) 11 (jI z13)) 6 (jI v9)) 4 (jI x8)) 5 (jI x7)) 6 = some (jI v9) from rfl) (congrArg (fun z => some (jI z)) (Eq.symm ((if_neg q16).trans ((if_pos q17).trans (if_neg q18)))))) f7 (jup_o rfl (jup_o rfl (jup_o rfl (jup_o rfl (jup_o rfl (jup_pi (lv := lv) (j := 8) (v := jI v9) (z := x8) f8))))))
      · refine ey_cne (cd_107 rfl) rfl rfl rfl q17 ?_
        exact K15 (jup (jup (jup lv 9 (jI v9)) 10 (jI z11)) 11 (jI z13)) f0 f1 f2 f3 (Eq.trans (show (jup (jup (jup lv 9 (jI v9)) 10 (jI z11)) 11 (jI z13)) 4 = some (jI x4) from f4) (congrArg (fun z => some (jI z)) (Eq.symm ((if_neg q16).trans (if_neg q17))))) (Eq.trans (show (jup (jup (jup lv 9 (jI v9)) 10 (jI z11)) 11 (jI z13)) 5 = some (jI x5) from f5) (congrArg (fun z => some (jI z)) (Eq.symm ((if_neg q16).trans (if_neg q17))))) (Eq.trans (show (jup (jup (jup lv 9 (jI v9)) 10 (jI z11)) 11 (jI z13)) 6 = some (jI x6) from f6) (congrArg (fun z => some (jI z)) (Eq.symm ((if_neg q16).trans (if_neg q17))))) f7 (jup_o rfl (jup_o rfl (jup_pi (lv := lv) (j := 8) (v := jI v9) (z := x8) f8)))
theorem jk_107_l32 {L : Nat} {xs : Nat → Int32} {this : Nat} {x1 : Option Nat} {x2 : Int} {x3 : Int} {x7 : Int} {x4 : Int} {x5 : Int} {x6 : Int} {x8 : Int} {h : jH} {x : (Int × Int × Int)} {r : mm_R} (e : jd_107_l32 this x1 x2 x3 x7 x4 x5 x6 x8 h = some x) (K : (∀ lv : jL, lv 0 = some (jR (some this)) → lv 1 = some (jR x1) → lv 2 = some (jI x2) → lv 3 = some (jI x3) → lv 4 = some (jI x.1) → lv 5 = some (jI x.2.1) → lv 6 = some (jI x.2.2) → lv 7 = some (jI x7) → ey (mm_xt L xs) 3 107 117 lv [] h r)) : ∀ lv : jL, lv 0 = some (jR (some this)) → lv 1 = some (jR x1) → lv 2 = some (jI x2) → lv 3 = some (jI x3) → lv 4 = some (jI x4) → lv 5 = some (jI x5) → lv 6 = some (jI x6) → lv 7 = some (jI x7) → lv 8 = some (jI x8) → ey (mm_xt L xs) 3 107 32 lv [] h r := by
  unfold jd_107_l32 at e
  exact jlp_ok2 (P := fun s => ∀ lv : jL, lv 0 = some (jR (some this)) → lv 1 = some (jR x1) → lv 2 = some (jI x2) → lv 3 = some (jI x3) → lv 4 = some (jI s.1) → lv 5 = some (jI s.2.1) → lv 6 = some (jI s.2.2.1) → lv 7 = some (jI x7) → lv 8 = some (jI s.2.2.2) → ey (mm_xt L xs) 3 107 32 lv [] h r) (Q := fun x => (∀ lv : jL, lv 0 = some (jR (some this)) → lv 1 = some (jR x1) → lv 2 = some (jI x2) → lv 3 = some (jI x3) → lv 4 = some (jI x.1) → lv 5 = some (jI x.2.1) → lv 6 = some (jI x.2.2) → lv 7 = some (jI x7) → ey (mm_xt L xs) 3 107 117 lv [] h r)) (fun s q hq hk => jk_107_s32 hq hk) jfu _ x e K
set_option maxRecDepth 100000 in
theorem jk_107_s22 {L : Nat} {xs : Nat → Int32} {this : Nat} {x1 : Option Nat} {x2 : Int} {x3 : Int} {x4 : Int} {x5 : Int} {x6 : Int} {x7 : Int} {h : jH} {o : ((Int × Int × Int × Int) ⊕ (Int × Int × Int))} {r : mm_R} (e : jd_107_s22 this x1 x2 x3 x4 x5 x6 x7 h = some o) (K : jsm (fun s => (∀ lv : jL, lv 0 = some (jR (some this)) → lv 1 = some (jR x1) → lv 2 = some (jI x2) → lv 3 = some (jI x3) → lv 4 = some (jI s.1) → lv 5 = some (jI s.2.1) → lv 6 = some (jI s.2.2.1) → lv 7 = some (jI s.2.2.2) → ey (mm_xt L xs) 3 107 22 lv [] h r)) (fun x => (∀ lv : jL, lv 3 = some (jI x3) → lv 4 = some (jI x.1) → lv 5 = some (jI x.2.1) → lv 6 = some (jI x.2.2) → ey (mm_xt L xs) 3 107 123 lv [] h r)) o) : ∀ lv : jL, lv 0 = some (jR (some this)) → lv 1 = some (jR x1) → lv 2 = some (jI x2) → lv 3 = some (jI x3) → lv 4 = some (jI x4) → lv 5 = some (jI x5) → lv 6 = some (jI x6) → lv 7 = some (jI x7) → ey (mm_xt L xs) 3 107 22 lv [] h r := by
  intro lv f0 f1 f2 f3 f4 f5 f6 f7
  unfold jd_107_s22 at e
  refine ey_iload (cd_107 rfl) f7 ?_
  refine ey_iconst (cd_107 rfl) ?_
  by_cases q5 : 4 < (jw x7)
  · rw [if_pos q5] at e
    refine ey_cgt (cd_107 rfl) rfl rfl (show jw 4 = 4 from by decide) q5 ?_
    cases e
    exact K lv f3 f4 f5 f6
  · rw [if_neg q5] at e
    refine ey_ngt (cd_107 rfl) rfl rfl (show jw 4 = 4 from by decide) q5 ?_
    refine ey_bipush (cd_107 rfl) (by decide) ?_
    refine ey_istore (cd_107 rfl) mt_107 rfl ?_
    obtain ⟨x19, e20, e⟩ := jbind e
    refine jk_107_l32 e20 ?_ (jup lv 8 (jI (-4))) f0 f1 f2 f3 f4 f5 f6 (jup_pi (lv := lv) (j := 7) (v := jI (-4)) (z := x7) f7) rfl
    intro lv g0 g1 g2 g3 g4 g5 g6 g7
    refine ey_iinc (cd_107 rfl) mt_107 rfl g7 ?_
    refine ey_goto (cd_107 rfl) rfl ?_
    cases e
    exact K (jup lv 7 (jI (x7 + 1))) g0 g1 g2 g3 g4 g5 (jup_pi (lv := lv) (j := 6) (v := jI (x7 + 1)) (z := x19.2.2) g6) rfl
theorem jk_107_l22 {L : Nat} {xs : Nat → Int32} {this : Nat} {x1 : Option Nat} {x2 : Int} {x3 : Int} {x4 : Int} {x5 : Int} {x6 : Int} {x7 : Int} {h : jH} {x : (Int × Int × Int)} {r : mm_R} (e : jd_107_l22 this x1 x2 x3 x4 x5 x6 x7 h = some x) (K : (∀ lv : jL, lv 3 = some (jI x3) → lv 4 = some (jI x.1) → lv 5 = some (jI x.2.1) → lv 6 = some (jI x.2.2) → ey (mm_xt L xs) 3 107 123 lv [] h r)) : ∀ lv : jL, lv 0 = some (jR (some this)) → lv 1 = some (jR x1) → lv 2 = some (jI x2) → lv 3 = some (jI x3) → lv 4 = some (jI x4) → lv 5 = some (jI x5) → lv 6 = some (jI x6) → lv 7 = some (jI x7) → ey (mm_xt L xs) 3 107 22 lv [] h r := by
  unfold jd_107_l22 at e
  exact jlp_ok2 (P := fun s => ∀ lv : jL, lv 0 = some (jR (some this)) → lv 1 = some (jR x1) → lv 2 = some (jI x2) → lv 3 = some (jI x3) → lv 4 = some (jI s.1) → lv 5 = some (jI s.2.1) → lv 6 = some (jI s.2.2.1) → lv 7 = some (jI s.2.2.2) → ey (mm_xt L xs) 3 107 22 lv [] h r) (Q := fun x => (∀ lv : jL, lv 3 = some (jI x3) → lv 4 = some (jI x.1) → lv 5 = some (jI x.2.1) → lv 6 = some (jI x.2.2) → ey (mm_xt L xs) 3 107 123 lv [] h r)) (fun s q hq hk => jk_107_s22 hq hk) jfu _ x e K
set_option maxRecDepth 100000 in
theorem jk_107_b144 {L : Nat} {xs : Nat → Int32} {this : Nat} {y0 : Int} {h : jH} {o : Int} (e : jd_107_b144 this y0 h = some o) : ∀ lv : jL, ey (mm_xt L xs) 3 107 144 lv [jI y0] h (.inl (some (jcv (jI o)), jaH h)) := by
  intro lv 
  unfold jd_107_b144 at e
  cases e
  exact ey_reti (cd_107 rfl) mt_107 rfl
set_option maxRecDepth 100000 in
theorem ok_107 {L : Nat} {xs : Nat → Int32} {this : Nat} {p0 : Option Nat} {p1 : Int} {p2 : Int} {h : jH} {o : Int} (e : jd_107 this p0 p1 p2 h = some o) : mm_Runs (mm_xt L xs) 4 107 ([jR (some this), jR p0, jI p1, jI p2].map jcv) (jaH h) (.inl (some (jcv (jI o)), jaH h)) := by
  refine ey_run0 _ mt_107 (jsl_s rfl) ?_
  unfold jd_107 at e
  refine ey_iconst (cd_107 rfl) ?_
  refine ey_istore (cd_107 rfl) mt_107 rfl ?_
  refine ey_iconst (cd_107 rfl) ?_
  refine ey_istore (cd_107 rfl) mt_107 rfl ?_
  refine ey_aload_n (cd_107 rfl) rfl ?_
  refine ey_aload_n (cd_107 rfl) rfl ?_
  refine ey_iload_n (cd_107 rfl) rfl ?_
  refine ey_iconst (cd_107 rfl) ?_
  refine ey_iconst (cd_107 rfl) ?_
  refine ey_ldc (z := 2147483647) (cd_107 rfl) mt_107 rfl (by decide) ?_
  obtain ⟨u1, e2, e⟩ := jbind e
  obtain ⟨v3, e4, e⟩ := jbind e
  refine ey_cv (s0 := [jI 2147483647, jI 0, jI 0, jI p1, jR p0, jR (some this)]) (s1 := []) (st' := [jI v3]) (cd_107 rfl) mt_107 mt_108 rfl rfl rfl (jck_s e2) rfl (jsml_s rfl) rfl (ok_108 e4) ?_
  refine ey_istore (cd_107 rfl) mt_107 rfl ?_
  refine ey_bipush (cd_107 rfl) (by decide) ?_
  refine ey_istore (cd_107 rfl) mt_107 rfl ?_
  obtain ⟨x21, e22, e⟩ := jbind e
  refine jk_107_l22 e22 ?_ (jup (jup (jup (jup (jlf (jla 0 [jR (some this), jR p0, jI p1, jI p2])) 4 (jI 0)) 5 (jI 0)) 6 (jI v3)) 7 (jI (-4))) rfl rfl rfl (jup_o rfl (jup_o rfl (jup_o rfl (jup_pi (lv := (jlf (jla 0 [jR (some this), jR p0, jI p1, jI p2]))) (j := 3) (v := jI 0) (z := p2) rfl)))) (jup_o rfl (jup_o rfl (jup_pi (lv := (jup (jlf (jla 0 [jR (some this), jR p0, jI p1, jI p2])) 4 (jI 0))) (j := 4) (v := jI 0) (z := 0) rfl))) (jup_o rfl (jup_pi (lv := (jup (jup (jlf (jla 0 [jR (some this), jR p0, jI p1, jI p2])) 4 (jI 0)) 5 (jI 0))) (j := 5) (v := jI v3) (z := 0) rfl)) (jup_pi (lv := (jup (jup (jup (jlf (jla 0 [jR (some this), jR p0, jI p1, jI p2])) 4 (jI 0)) 5 (jI 0)) 6 (jI v3))) (j := 6) (v := jI (-4)) (z := v3) rfl) rfl
  intro lv g3 g4 g5 g6
  refine ey_iload_n (cd_107 rfl) g3 ?_
  have K23 : ∀ lv : jL, ey (mm_xt L xs) 3 107 144 lv [jI (if (jw p2) = 0 then x21.1 else (if (jw p2) = 1 then x21.2.1 else x21.2.2))] h (.inl (some (jcv (jI o)), jaH h)) := by
    intro lv 
    exact jk_107_b144 e lv 
  by_cases q24 : (jw p2) = 0
  · refine ey_yne (cd_107 rfl) rfl rfl (fun w => w q24) ?_
    refine ey_iload (cd_107 rfl) g4 ?_
    refine ey_goto (cd_107 rfl) rfl ?_
    exact ey_rs (s0 := [jI x21.1]) (s1 := [jI (if (jw p2) = 0 then x21.1 else (if (jw p2) = 1 then x21.2.1 else x21.2.2))]) (by rw [show ((if (jw p2) = 0 then x21.1 else (if (jw p2) = 1 then x21.2.1 else x21.2.2)) : Int) = x21.1 from (if_pos q24)]) (K23 lv )
  · refine ey_zne (cd_107 rfl) rfl rfl q24 ?_
    refine ey_iload_n (cd_107 rfl) g3 ?_
    refine ey_iconst (cd_107 rfl) ?_
    by_cases q25 : (jw p2) = 1
    · refine ey_nne (cd_107 rfl) rfl rfl (show jw 1 = 1 from by decide) (fun w => w q25) ?_
      refine ey_iload (cd_107 rfl) g5 ?_
      refine ey_goto (cd_107 rfl) rfl ?_
      exact ey_rs (s0 := [jI x21.2.1]) (s1 := [jI (if (jw p2) = 0 then x21.1 else (if (jw p2) = 1 then x21.2.1 else x21.2.2))]) (by rw [show ((if (jw p2) = 0 then x21.1 else (if (jw p2) = 1 then x21.2.1 else x21.2.2)) : Int) = x21.2.1 from ((if_neg q24).trans (if_pos q25))]) (K23 lv )
    · refine ey_cne (cd_107 rfl) rfl rfl (show jw 1 = 1 from by decide) q25 ?_
      refine ey_iload (cd_107 rfl) g6 ?_
      exact ey_rs (s0 := [jI x21.2.2]) (s1 := [jI (if (jw p2) = 0 then x21.1 else (if (jw p2) = 1 then x21.2.1 else x21.2.2))]) (by rw [show ((if (jw p2) = 0 then x21.1 else (if (jw p2) = 1 then x21.2.1 else x21.2.2)) : Int) = x21.2.2 from ((if_neg q24).trans (if_neg q25))]) (K23 lv )
theorem cd_109 {pc : Nat} {i : Instr × Nat} (h : mm_lk mm_c109 pc = some i) : mm_cd 109 pc = some i := h
theorem mt_109 : mm_MT 109 = (7, 1, none, 0, 2, []) := rfl
set_option maxRecDepth 100000 in
theorem ok_109 {L : Nat} {xs : Nat → Int32} {this : Nat}  {h : jH} {o : jH} (e : jd_109 this  h = some o) : mm_Runs (mm_xt L xs) 1 109 ([jR (some this)].map jcv) (jaH h) (.inl (none, jaH o)) := by
  refine ey_run0 _ mt_109 (jsl_s rfl) ?_
  unfold jd_109 at e
  refine ey_aload_n (cd_109 rfl) rfl ?_
  refine ey_oini (cd_109 rfl) mt_109 rfl (jsml_s rfl) ?_
  refine ey_aload_n (cd_109 rfl) rfl ?_
  refine ey_null (cd_109 rfl) ?_
  obtain ⟨h1, e2, e⟩ := jbind e
  refine ey_putf_r (cd_109 rfl) mt_109 rfl rfl rfl e2 ?_
  refine ey_aload_n (cd_109 rfl) rfl ?_
  refine ey_iconst (cd_109 rfl) ?_
  obtain ⟨h3, e4, e⟩ := jbind e
  refine ey_putf_i (cd_109 rfl) mt_109 rfl rfl rfl e4 ?_
  refine ey_aload_n (cd_109 rfl) rfl ?_
  refine ey_iconst (cd_109 rfl) ?_
  obtain ⟨h5, e6, e⟩ := jbind e
  refine ey_putf_i (cd_109 rfl) mt_109 rfl rfl rfl e6 ?_
  refine ey_aload_n (cd_109 rfl) rfl ?_
  refine ey_iconst (cd_109 rfl) ?_
  obtain ⟨h7, e8, e⟩ := jbind e
  refine ey_putf_i (cd_109 rfl) mt_109 rfl rfl rfl e8 ?_
  refine ey_aload_n (cd_109 rfl) rfl ?_
  refine ey_iconst (cd_109 rfl) ?_
  obtain ⟨h9, e10, e⟩ := jbind e
  refine ey_putf_z (cd_109 rfl) mt_109 rfl rfl rfl (Or.inl rfl) e10 ?_
  refine ey_aload_n (cd_109 rfl) rfl ?_
  refine ey_iconst (cd_109 rfl) ?_
  obtain ⟨h11, e12, e⟩ := jbind e
  refine ey_putf_i (cd_109 rfl) mt_109 rfl rfl rfl e12 ?_
  refine ey_aload_n (cd_109 rfl) rfl ?_
  refine ey_iconst (cd_109 rfl) ?_
  obtain ⟨h13, e14, e⟩ := jbind e
  refine ey_putf_i (cd_109 rfl) mt_109 rfl rfl rfl e14 ?_
  refine ey_aload_n (cd_109 rfl) rfl ?_
  refine ey_iconst (cd_109 rfl) ?_
  obtain ⟨h15, e16, e⟩ := jbind e
  refine ey_putf_i (cd_109 rfl) mt_109 rfl rfl rfl e16 ?_
  refine ey_aload_n (cd_109 rfl) rfl ?_
  refine ey_null (cd_109 rfl) ?_
  obtain ⟨h17, e18, e⟩ := jbind e
  refine ey_putf_r (cd_109 rfl) mt_109 rfl rfl rfl e18 ?_
  refine ey_aload_n (cd_109 rfl) rfl ?_
  refine ey_iconst (cd_109 rfl) ?_
  obtain ⟨h19, e20, e⟩ := jbind e
  refine ey_putf_i (cd_109 rfl) mt_109 rfl rfl rfl e20 ?_
  refine ey_aload_n (cd_109 rfl) rfl ?_
  refine ey_iconst (cd_109 rfl) ?_
  obtain ⟨h21, e22, e⟩ := jbind e
  refine ey_putf_i (cd_109 rfl) mt_109 rfl rfl rfl e22 ?_
  refine ey_aload_n (cd_109 rfl) rfl ?_
  refine ey_iconst (cd_109 rfl) ?_
  obtain ⟨h23, e24, e⟩ := jbind e
  refine ey_putf_i (cd_109 rfl) mt_109 rfl rfl rfl e24 ?_
  cases e
  exact ey_retv (cd_109 rfl) mt_109 rfl
theorem cd_110 {pc : Nat} {i : Instr × Nat} (h : mm_lk mm_c110 pc = some i) : mm_cd 110 pc = some i := h
theorem mt_110 : mm_MT 110 = (7, 5, none, 4, 0, []) := rfl
set_option maxRecDepth 100000 in
theorem jk_110_b74 {L : Nat} {xs : Nat → Int32} {this : Nat}  {h : jH} {o : jH} (e : jd_110_b74 this  h = some o) : ∀ lv : jL, ey (mm_xt L xs) 1 110 74 lv [] h (.inl (none, jaH o)) := by
  intro lv 
  unfold jd_110_b74 at e
  cases e
  exact ey_retv (cd_110 rfl) mt_110 rfl
set_option maxRecDepth 100000 in
theorem ok_110 {L : Nat} {xs : Nat → Int32} {this : Nat} {p0 : Option Nat} {p1 : Int} {p2 : Int} {p3 : Int} {h : jH} {o : jH} (e : jd_110 this p0 p1 p2 p3 h = some o) : mm_Runs (mm_xt L xs) 2 110 ([jR (some this), jR p0, jI p1, jI p2, jI p3].map jcv) (jaH h) (.inl (none, jaH o)) := by
  refine ey_run0 _ mt_110 (jsl_s rfl) ?_
  unfold jd_110 at e
  refine ey_aload_n (cd_110 rfl) rfl ?_
  refine ey_aload_n (cd_110 rfl) rfl ?_
  obtain ⟨h1, e2, e⟩ := jbind e
  refine ey_putf_r (cd_110 rfl) mt_110 rfl rfl rfl e2 ?_
  refine ey_aload_n (cd_110 rfl) rfl ?_
  refine ey_iload_n (cd_110 rfl) rfl ?_
  obtain ⟨h3, e4, e⟩ := jbind e
  refine ey_putf_i (cd_110 rfl) mt_110 rfl rfl rfl e4 ?_
  refine ey_aload_n (cd_110 rfl) rfl ?_
  refine ey_iload_n (cd_110 rfl) rfl ?_
  obtain ⟨h5, e6, e⟩ := jbind e
  refine ey_putf_i (cd_110 rfl) mt_110 rfl rfl rfl e6 ?_
  refine ey_aload_n (cd_110 rfl) rfl ?_
  refine ey_iload (cd_110 rfl) rfl ?_
  obtain ⟨h7, e8, e⟩ := jbind e
  refine ey_putf_i (cd_110 rfl) mt_110 rfl rfl rfl e8 ?_
  refine ey_aload_n (cd_110 rfl) rfl ?_
  refine ey_iconst (cd_110 rfl) ?_
  obtain ⟨h9, e10, e⟩ := jbind e
  refine ey_putf_i (cd_110 rfl) mt_110 rfl rfl rfl e10 ?_
  refine ey_aload_n (cd_110 rfl) rfl ?_
  refine ey_iconst (cd_110 rfl) ?_
  obtain ⟨h11, e12, e⟩ := jbind e
  refine ey_putf_i (cd_110 rfl) mt_110 rfl rfl rfl e12 ?_
  refine ey_aload_n (cd_110 rfl) rfl ?_
  refine ey_iconst (cd_110 rfl) ?_
  obtain ⟨h13, e14, e⟩ := jbind e
  refine ey_putf_i (cd_110 rfl) mt_110 rfl rfl rfl e14 ?_
  refine ey_aload_n (cd_110 rfl) rfl ?_
  refine ey_iconst (cd_110 rfl) ?_
  obtain ⟨h15, e16, e⟩ := jbind e
  refine ey_putf_z (cd_110 rfl) mt_110 rfl rfl rfl (Or.inl rfl) e16 ?_
  refine ey_aload_n (cd_110 rfl) rfl ?_
  refine ey_iconst (cd_110 rfl) ?_
  obtain ⟨h17, e18, e⟩ := jbind e
  refine ey_putf_i (cd_110 rfl) mt_110 rfl rfl rfl e18 ?_
  refine ey_aload_n (cd_110 rfl) rfl ?_
  refine ey_iconst (cd_110 rfl) ?_
  obtain ⟨h19, e20, e⟩ := jbind e
  refine ey_putf_i (cd_110 rfl) mt_110 rfl rfl rfl e20 ?_
  refine ey_aload_n (cd_110 rfl) rfl ?_
  refine ey_iconst (cd_110 rfl) ?_
  obtain ⟨h21, e22, e⟩ := jbind e
  refine ey_putf_i (cd_110 rfl) mt_110 rfl rfl rfl e22 ?_
  refine ey_aload_n (cd_110 rfl) rfl ?_
  obtain ⟨r23, e24, e⟩ := jbind e
  refine ey_getf_r (cd_110 rfl) mt_110 rfl rfl rfl e24 ?_
  by_cases q25 : r23 = none
  · rw [if_pos q25] at e
    refine ey_rs (s0 := [jR r23]) (s1 := [jR none]) (by rw [q25]) ?_
    refine ey_ifnonnull_n (cd_110 rfl) rfl ?_
    refine ey_aload_n (cd_110 rfl) rfl ?_
    obtain ⟨n26, e27, e⟩ := jbind e
    refine ey_new (cd_110 rfl) mt_110 rfl rfl jdf_6 e27 ?_
    refine ey_dup (cd_110 rfl) rfl ?_
    obtain ⟨h28, e29, e⟩ := jbind e
    refine ey_ci (s0 := [jR (some n26.1), jR (some n26.1), jR (some this)]) (s1 := [jR (some n26.1), jR (some this)]) (st' := [jR (some n26.1), jR (some this)]) (cd_110 rfl) mt_110 mt_94 rfl (by decide) rfl rfl (jsml_s rfl) rfl (ok_94 e29) ?_
    obtain ⟨h30, e31, e⟩ := jbind e
    refine ey_putf_r (cd_110 rfl) mt_110 rfl rfl rfl e31 ?_
    exact jk_110_b74 e (jlf (jla 0 [jR (some this), jR p0, jI p1, jI p2, jI p3])) 
  · rw [if_neg q25] at e
    obtain ⟨w32, w32e⟩ := Option.ne_none_iff_exists'.mp q25
    refine ey_rs (s0 := [jR r23]) (s1 := [jR (some w32)]) (by rw [w32e]) ?_
    refine ey_ifnonnull_s (cd_110 rfl) rfl ?_
    exact jk_110_b74 e (jlf (jla 0 [jR (some this), jR p0, jI p1, jI p2, jI p3])) 
theorem cd_111 {pc : Nat} {i : Instr × Nat} (h : mm_lk mm_c111 pc = some i) : mm_cd 111 pc = some i := h
theorem mt_111 : mm_MT 111 = (7, 2, none, 1, 0, []) := rfl
set_option maxRecDepth 100000 in
theorem ok_111 {L : Nat} {xs : Nat → Int32} {this : Nat} {p0 : Int} {h : jH} {o : jH} (e : jd_111 this p0 h = some o) : mm_Runs (mm_xt L xs) 2 111 ([jR (some this), jI p0].map jcv) (jaH h) (.inl (none, jaH o)) := by
  refine ey_run0 _ mt_111 (jsl_s rfl) ?_
  unfold jd_111 at e
  refine ey_aload_n (cd_111 rfl) rfl ?_
  refine ey_aload_n (cd_111 rfl) rfl ?_
  obtain ⟨r1, e2, e⟩ := jbind e
  refine ey_getf_r (cd_111 rfl) mt_111 rfl rfl rfl e2 ?_
  obtain ⟨a3, e4, e⟩ := jbind e
  refine ey_rs (s0 := [jR r1, jR (some this)]) (s1 := [jR (some a3), jR (some this)]) (by rw [e4]) ?_
  obtain ⟨r5, e6, e⟩ := jbind e
  refine ey_getf_r (cd_111 rfl) mt_111 rfl rfl rfl e6 ?_
  refine ey_aload_n (cd_111 rfl) rfl ?_
  obtain ⟨r7, e8, e⟩ := jbind e
  refine ey_getf_r (cd_111 rfl) mt_111 rfl rfl rfl e8 ?_
  refine ey_aload_n (cd_111 rfl) rfl ?_
  obtain ⟨r9, e10, e⟩ := jbind e
  refine ey_getf_r (cd_111 rfl) mt_111 rfl rfl rfl e10 ?_
  obtain ⟨a11, e12, e⟩ := jbind e
  refine ey_rs (s0 := [jR r9, jR r7, jR r5, jR (some this)]) (s1 := [jR (some a11), jR r7, jR r5, jR (some this)]) (by rw [e12]) ?_
  obtain ⟨r13, e14, e⟩ := jbind e
  refine ey_getf_r (cd_111 rfl) mt_111 rfl rfl rfl e14 ?_
  refine ey_iload_n (cd_111 rfl) rfl ?_
  obtain ⟨a15, e16, e⟩ := jbind e
  refine ey_rs (s0 := [jI p0, jR r13, jR r7, jR r5, jR (some this)]) (s1 := [jI p0, jR (some a15), jR r7, jR r5, jR (some this)]) (by rw [e16]) ?_
  obtain ⟨v17, e18, e⟩ := jbind e
  refine ey_iald (cd_111 rfl) e18 ?_
  obtain ⟨a19, e20, e⟩ := jbind e
  refine ey_rs (s0 := [jI v17, jR r7, jR r5, jR (some this)]) (s1 := [jI v17, jR (some a19), jR r5, jR (some this)]) (by rw [e20]) ?_
  obtain ⟨u21, e22, e⟩ := jbind e
  obtain ⟨v23, e24, e⟩ := jbind e
  refine ey_cv (s0 := [jI v17, jR (some a19), jR r5, jR (some this)]) (s1 := [jR r5, jR (some this)]) (st' := [jI v23, jR r5, jR (some this)]) (cd_111 rfl) mt_111 mt_37 rfl rfl rfl (jck_s e22) rfl (jsml_s rfl) rfl (ok_37 e24) ?_
  obtain ⟨a25, e26, e⟩ := jbind e
  refine ey_rs (s0 := [jI v23, jR r5, jR (some this)]) (s1 := [jI v23, jR (some a25), jR (some this)]) (by rw [e26]) ?_
  obtain ⟨v27, e28, e⟩ := jbind e
  refine ey_iald (cd_111 rfl) e28 ?_
  obtain ⟨h29, e30, e⟩ := jbind e
  refine ey_putf_i (cd_111 rfl) mt_111 rfl rfl rfl e30 ?_
  refine ey_aload_n (cd_111 rfl) rfl ?_
  refine ey_aload_n (cd_111 rfl) rfl ?_
  obtain ⟨v31, e32, e⟩ := jbind e
  refine ey_getf_i (cd_111 rfl) mt_111 rfl rfl rfl e32 ?_
  obtain ⟨h33, e34, e⟩ := jbind e
  refine ey_putf_i (cd_111 rfl) mt_111 rfl rfl rfl e34 ?_
  refine ey_aload_n (cd_111 rfl) rfl ?_
  refine ey_iload_n (cd_111 rfl) rfl ?_
  obtain ⟨h35, e36, e⟩ := jbind e
  refine ey_putf_i (cd_111 rfl) mt_111 rfl rfl rfl e36 ?_
  refine ey_aload_n (cd_111 rfl) rfl ?_
  refine ey_iconst (cd_111 rfl) ?_
  obtain ⟨h37, e38, e⟩ := jbind e
  refine ey_putf_z (cd_111 rfl) mt_111 rfl rfl rfl (Or.inl rfl) e38 ?_
  cases e
  exact ey_retv (cd_111 rfl) mt_111 rfl
theorem cd_112 {pc : Nat} {i : Instr × Nat} (h : mm_lk mm_c112 pc = some i) : mm_cd 112 pc = some i := h
theorem mt_112 : mm_MT 112 = (7, 1, some .int, 0, 0, []) := rfl
set_option maxRecDepth 100000 in
theorem jk_112_b83 {L : Nat} {xs : Nat → Int32} {this : Nat} {y0 : Int} {h : jH} {o : (Int × jH)} (e : jd_112_b83 this y0 h = some o) : ∀ lv : jL, lv 0 = some (jR (some this)) → ey (mm_xt L xs) 1 112 83 lv [jI y0, jR (some this)] h (.inl (some (jcv (jI o.1)), jaH o.2)) := by
  intro lv f0
  unfold jd_112_b83 at e
  obtain ⟨u32, e33, e⟩ := jbind e
  obtain ⟨h34, e35, e⟩ := jbind e
  refine ey_putf_z (cd_112 rfl) mt_112 rfl rfl rfl (jbc_s e33) e35 ?_
  refine ey_aload_n (cd_112 rfl) f0 ?_
  obtain ⟨v36, e37, e⟩ := jbind e
  refine ey_getf_z (cd_112 rfl) mt_112 rfl rfl rfl e37 ?_
  by_cases q38 : (jw v36) = 0
  · rw [if_pos q38] at e
    refine ey_yne (cd_112 rfl) rfl rfl (fun w => w q38) ?_
    refine ey_bipush (cd_112 rfl) (by decide) ?_
    cases e
    exact ey_reti (cd_112 rfl) mt_112 rfl
  · rw [if_neg q38] at e
    refine ey_zne (cd_112 rfl) rfl rfl q38 ?_
    refine ey_aload_n (cd_112 rfl) f0 ?_
    obtain ⟨v39, e40, e⟩ := jbind e
    refine ey_getf_i (cd_112 rfl) mt_112 rfl rfl rfl e40 ?_
    refine ey_aload_n (cd_112 rfl) f0 ?_
    obtain ⟨r41, e42, e⟩ := jbind e
    refine ey_getf_r (cd_112 rfl) mt_112 rfl rfl rfl e42 ?_
    refine ey_aload_n (cd_112 rfl) f0 ?_
    obtain ⟨r43, e44, e⟩ := jbind e
    refine ey_getf_r (cd_112 rfl) mt_112 rfl rfl rfl e44 ?_
    obtain ⟨a45, e46, e⟩ := jbind e
    refine ey_rs (s0 := [jR r43, jR r41, jI v39]) (s1 := [jR (some a45), jR r41, jI v39]) (by rw [e46]) ?_
    obtain ⟨r47, e48, e⟩ := jbind e
    refine ey_getf_r (cd_112 rfl) mt_112 rfl rfl rfl e48 ?_
    refine ey_aload_n (cd_112 rfl) f0 ?_
    obtain ⟨v49, e50, e⟩ := jbind e
    refine ey_getf_i (cd_112 rfl) mt_112 rfl rfl rfl e50 ?_
    obtain ⟨a51, e52, e⟩ := jbind e
    refine ey_rs (s0 := [jI v49, jR r47, jR r41, jI v39]) (s1 := [jI v49, jR (some a51), jR r41, jI v39]) (by rw [e52]) ?_
    obtain ⟨v53, e54, e⟩ := jbind e
    refine ey_iald (cd_112 rfl) e54 ?_
    obtain ⟨a55, e56, e⟩ := jbind e
    refine ey_rs (s0 := [jI v53, jR r41, jI v39]) (s1 := [jI v53, jR (some a55), jI v39]) (by rw [e56]) ?_
    obtain ⟨u57, e58, e⟩ := jbind e
    obtain ⟨v59, e60, e⟩ := jbind e
    refine ey_cv (s0 := [jI v53, jR (some a55), jI v39]) (s1 := [jI v39]) (st' := [jI v59, jI v39]) (cd_112 rfl) mt_112 mt_42 rfl rfl rfl (jck_s e58) rfl (jsml_s rfl) rfl (ok_42 e60) ?_
    by_cases q61 : (jw v59) ≤ (jw v39)
    · rw [if_pos q61] at e
      refine ey_cge (cd_112 rfl) rfl rfl rfl q61 ?_
      refine ey_aload_n (cd_112 rfl) f0 ?_
      refine ey_aload_n (cd_112 rfl) f0 ?_
      obtain ⟨v62, e63, e⟩ := jbind e
      refine ey_getf_i (cd_112 rfl) mt_112 rfl rfl rfl e63 ?_
      obtain ⟨h64, e65, e⟩ := jbind e
      refine ey_putf_i (cd_112 rfl) mt_112 rfl rfl rfl e65 ?_
      refine ey_aload_n (cd_112 rfl) f0 ?_
      refine ey_dup (cd_112 rfl) rfl ?_
      obtain ⟨v66, e67, e⟩ := jbind e
      refine ey_getf_i (cd_112 rfl) mt_112 rfl rfl rfl e67 ?_
      refine ey_iconst (cd_112 rfl) ?_
      refine ey_iadd (cd_112 rfl) ?_
      obtain ⟨h68, e69, e⟩ := jbind e
      refine ey_putf_i (cd_112 rfl) mt_112 rfl rfl rfl e69 ?_
      refine ey_aload_n (cd_112 rfl) f0 ?_
      obtain ⟨v70, e71, e⟩ := jbind e
      refine ey_getf_i (cd_112 rfl) mt_112 rfl rfl rfl e71 ?_
      cases e
      exact ey_reti (cd_112 rfl) mt_112 rfl
    · rw [if_neg q61] at e
      refine ey_nge (cd_112 rfl) rfl rfl rfl q61 ?_
      refine ey_aload_n (cd_112 rfl) f0 ?_
      refine ey_dup (cd_112 rfl) rfl ?_
      obtain ⟨v72, e73, e⟩ := jbind e
      refine ey_getf_i (cd_112 rfl) mt_112 rfl rfl rfl e73 ?_
      refine ey_iconst (cd_112 rfl) ?_
      refine ey_iadd (cd_112 rfl) ?_
      obtain ⟨h74, e75, e⟩ := jbind e
      refine ey_putf_i (cd_112 rfl) mt_112 rfl rfl rfl e75 ?_
      refine ey_iconst (cd_112 rfl) ?_
      cases e
      exact ey_reti (cd_112 rfl) mt_112 rfl
set_option maxRecDepth 100000 in
theorem jk_112_b78 {L : Nat} {xs : Nat → Int32} {this : Nat}  {h : jH} {o : (Int × jH)} (e : jd_112_b78 this  h = some o) : ∀ lv : jL, lv 0 = some (jR (some this)) → ey (mm_xt L xs) 1 112 78 lv [jR (some this)] h (.inl (some (jcv (jI o.1)), jaH o.2)) := by
  intro lv f0
  unfold jd_112_b78 at e
  refine ey_iconst (cd_112 rfl) ?_
  refine ey_goto (cd_112 rfl) rfl ?_
  exact jk_112_b83 e lv f0
set_option maxRecDepth 100000 in
theorem ok_112 {L : Nat} {xs : Nat → Int32} {this : Nat}  {h : jH} {o : (Int × jH)} (e : jd_112 this  h = some o) : mm_Runs (mm_xt L xs) 2 112 ([jR (some this)].map jcv) (jaH h) (.inl (some (jcv (jI o.1)), jaH o.2)) := by
  refine ey_run0 _ mt_112 (jsl_s rfl) ?_
  unfold jd_112 at e
  refine ey_aload_n (cd_112 rfl) rfl ?_
  refine ey_aload_n (cd_112 rfl) rfl ?_
  obtain ⟨r1, e2, e⟩ := jbind e
  refine ey_getf_r (cd_112 rfl) mt_112 rfl rfl rfl e2 ?_
  obtain ⟨a3, e4, e⟩ := jbind e
  refine ey_rs (s0 := [jR r1, jR (some this)]) (s1 := [jR (some a3), jR (some this)]) (by rw [e4]) ?_
  obtain ⟨v5, e6, e⟩ := jbind e
  refine ey_getf_i (cd_112 rfl) mt_112 rfl rfl rfl e6 ?_
  refine ey_aload_n (cd_112 rfl) rfl ?_
  obtain ⟨v7, e8, e⟩ := jbind e
  refine ey_getf_i (cd_112 rfl) mt_112 rfl rfl rfl e8 ?_
  refine ey_aload_n (cd_112 rfl) rfl ?_
  obtain ⟨v9, e10, e⟩ := jbind e
  refine ey_getf_i (cd_112 rfl) mt_112 rfl rfl rfl e10 ?_
  refine ey_iadd (cd_112 rfl) ?_
  refine ey_min (cd_112 rfl) mt_112 rfl (jsml_s rfl) ?_
  obtain ⟨h11, e12, e⟩ := jbind e
  refine ey_putf_i (cd_112 rfl) mt_112 rfl rfl rfl e12 ?_
  refine ey_aload_n (cd_112 rfl) rfl ?_
  obtain ⟨v13, e14, e⟩ := jbind e
  refine ey_getf_i (cd_112 rfl) mt_112 rfl rfl rfl e14 ?_
  refine ey_aload_n (cd_112 rfl) rfl ?_
  obtain ⟨r15, e16, e⟩ := jbind e
  refine ey_getf_r (cd_112 rfl) mt_112 rfl rfl rfl e16 ?_
  obtain ⟨a17, e18, e⟩ := jbind e
  refine ey_rs (s0 := [jR r15, jI v13]) (s1 := [jR (some a17), jI v13]) (by rw [e18]) ?_
  obtain ⟨v19, e20, e⟩ := jbind e
  refine ey_getf_i (cd_112 rfl) mt_112 rfl rfl rfl e20 ?_
  by_cases q21 : (jw v13) < (jw v19)
  · rw [if_pos q21] at e
    refine ey_clt (cd_112 rfl) rfl rfl rfl q21 ?_
    refine ey_aload_n (cd_112 rfl) rfl ?_
    refine ey_aload_n (cd_112 rfl) rfl ?_
    obtain ⟨v22, e23, e⟩ := jbind e
    refine ey_getf_z (cd_112 rfl) mt_112 rfl rfl rfl e23 ?_
    by_cases q24 : (jw v22) = 0
    · rw [if_pos q24] at e
      refine ey_yne (cd_112 rfl) rfl rfl (fun w => w q24) ?_
      refine ey_aload_n (cd_112 rfl) rfl ?_
      obtain ⟨v25, e26, e⟩ := jbind e
      refine ey_getf_i (cd_112 rfl) mt_112 rfl rfl rfl e26 ?_
      refine ey_aload_n (cd_112 rfl) rfl ?_
      obtain ⟨v27, e28, e⟩ := jbind e
      refine ey_getf_i (cd_112 rfl) mt_112 rfl rfl rfl e28 ?_
      refine ey_isub (cd_112 rfl) ?_
      refine ey_aload_n (cd_112 rfl) rfl ?_
      obtain ⟨v29, e30, e⟩ := jbind e
      refine ey_getf_i (cd_112 rfl) mt_112 rfl rfl rfl e30 ?_
      by_cases q31 : (jw v29) ≤ (jw (v25 - v27))
      · rw [if_pos q31] at e
        refine ey_cge (cd_112 rfl) rfl rfl rfl q31 ?_
        exact jk_112_b78 e (jlf (jla 0 [jR (some this)])) rfl
      · rw [if_neg q31] at e
        refine ey_nge (cd_112 rfl) rfl rfl rfl q31 ?_
        refine ey_aload_n (cd_112 rfl) rfl ?_
        obtain ⟨v76, e77, e⟩ := jbind e
        refine ey_getf_i (cd_112 rfl) mt_112 rfl rfl rfl e77 ?_
        refine ey_aload_n (cd_112 rfl) rfl ?_
        obtain ⟨r78, e79, e⟩ := jbind e
        refine ey_getf_r (cd_112 rfl) mt_112 rfl rfl rfl e79 ?_
        obtain ⟨a80, e81, e⟩ := jbind e
        refine ey_rs (s0 := [jR r78, jI v76, jR (some this)]) (s1 := [jR (some a80), jI v76, jR (some this)]) (by rw [e81]) ?_
        obtain ⟨v82, e83, e⟩ := jbind e
        refine ey_getf_i (cd_112 rfl) mt_112 rfl rfl rfl e83 ?_
        have K84 : ∀ lv : jL, lv 0 = some (jR (some this)) → ey (mm_xt L xs) 1 112 83 lv [jI (if (jw v76) = (jw v82) then 1 else 0), jR (some this)] h11 (.inl (some (jcv (jI o.1)), jaH o.2)) := by
          intro lv g0
          exact jk_112_b83 e lv g0
        by_cases q85 : (jw v76) = (jw v82)
        · refine ey_nne (cd_112 rfl) rfl rfl rfl (fun w => w q85) ?_
          refine ey_iconst (cd_112 rfl) ?_
          refine ey_goto (cd_112 rfl) rfl ?_
          exact ey_rs (s0 := [jI 1, jR (some this)]) (s1 := [jI (if (jw v76) = (jw v82) then 1 else 0), jR (some this)]) (by rw [show ((if (jw v76) = (jw v82) then 1 else 0) : Int) = 1 from (if_pos q85)]) (K84 (jlf (jla 0 [jR (some this)])) rfl)
        · refine ey_cne (cd_112 rfl) rfl rfl rfl q85 ?_
          refine ey_iconst (cd_112 rfl) ?_
          exact ey_rs (s0 := [jI 0, jR (some this)]) (s1 := [jI (if (jw v76) = (jw v82) then 1 else 0), jR (some this)]) (by rw [show ((if (jw v76) = (jw v82) then 1 else 0) : Int) = 0 from (if_neg q85)]) (K84 (jlf (jla 0 [jR (some this)])) rfl)
    · rw [if_neg q24] at e
      refine ey_zne (cd_112 rfl) rfl rfl q24 ?_
      exact jk_112_b78 e (jlf (jla 0 [jR (some this)])) rfl
  · rw [if_neg q21] at e
    refine ey_nlt (cd_112 rfl) rfl rfl rfl q21 ?_
    refine ey_bipush (cd_112 rfl) (by decide) ?_
    cases e
    exact ey_reti (cd_112 rfl) mt_112 rfl
theorem cd_113 {pc : Nat} {i : Instr × Nat} (h : mm_lk mm_c113 pc = some i) : mm_cd 113 pc = some i := h
theorem mt_113 : mm_MT 113 = (8, 1, none, 0, 2, []) := rfl
set_option maxRecDepth 100000 in
theorem ok_113 {L : Nat} {xs : Nat → Int32} {this : Nat}  {h : jH} {o : jH} (e : jd_113 this  h = some o) : mm_Runs (mm_xt L xs) 2 113 ([jR (some this)].map jcv) (jaH h) (.inl (none, jaH o)) := by
  refine ey_run0 _ mt_113 (jsl_s rfl) ?_
  unfold jd_113 at e
  refine ey_aload_n (cd_113 rfl) rfl ?_
  refine ey_oini (cd_113 rfl) mt_113 rfl (jsml_s rfl) ?_
  refine ey_aload_n (cd_113 rfl) rfl ?_
  obtain ⟨n1, e2, e⟩ := jbind e
  refine ey_new (cd_113 rfl) mt_113 rfl rfl jdf_0 e2 ?_
  refine ey_dup (cd_113 rfl) rfl ?_
  obtain ⟨h3, e4, e⟩ := jbind e
  refine ey_ci (s0 := [jR (some n1.1), jR (some n1.1), jR (some this)]) (s1 := [jR (some n1.1), jR (some this)]) (st' := [jR (some n1.1), jR (some this)]) (cd_113 rfl) mt_113 mt_0 rfl (by decide) rfl rfl (jsml_s rfl) rfl (ok_0 e4) ?_
  obtain ⟨h5, e6, e⟩ := jbind e
  refine ey_putf_r (cd_113 rfl) mt_113 rfl rfl rfl e6 ?_
  refine ey_aload_n (cd_113 rfl) rfl ?_
  obtain ⟨n7, e8, e⟩ := jbind e
  refine ey_new (cd_113 rfl) mt_113 rfl rfl jdf_5 e8 ?_
  refine ey_dup (cd_113 rfl) rfl ?_
  obtain ⟨h9, e10, e⟩ := jbind e
  refine ey_ci (s0 := [jR (some n7.1), jR (some n7.1), jR (some this)]) (s1 := [jR (some n7.1), jR (some this)]) (st' := [jR (some n7.1), jR (some this)]) (cd_113 rfl) mt_113 mt_72 rfl (by decide) rfl rfl (jsml_s rfl) rfl (ok_72 e10) ?_
  obtain ⟨h11, e12, e⟩ := jbind e
  refine ey_putf_r (cd_113 rfl) mt_113 rfl rfl rfl e12 ?_
  refine ey_aload_n (cd_113 rfl) rfl ?_
  obtain ⟨n13, e14, e⟩ := jbind e
  refine ey_new (cd_113 rfl) mt_113 rfl rfl jdf_10 e14 ?_
  refine ey_dup (cd_113 rfl) rfl ?_
  obtain ⟨h15, e16, e⟩ := jbind e
  refine ey_ci (s0 := [jR (some n13.1), jR (some n13.1), jR (some this)]) (s1 := [jR (some n13.1), jR (some this)]) (st' := [jR (some n13.1), jR (some this)]) (cd_113 rfl) mt_113 mt_131 rfl (by decide) rfl rfl (jsml_s rfl) rfl (ok_131 e16) ?_
  obtain ⟨h17, e18, e⟩ := jbind e
  refine ey_putf_r (cd_113 rfl) mt_113 rfl rfl rfl e18 ?_
  refine ey_aload_n (cd_113 rfl) rfl ?_
  obtain ⟨n19, e20, e⟩ := jbind e
  refine ey_new (cd_113 rfl) mt_113 rfl rfl jdf_9 e20 ?_
  refine ey_dup (cd_113 rfl) rfl ?_
  obtain ⟨h21, e22, e⟩ := jbind e
  refine ey_ci (s0 := [jR (some n19.1), jR (some n19.1), jR (some this)]) (s1 := [jR (some n19.1), jR (some this)]) (st' := [jR (some n19.1), jR (some this)]) (cd_113 rfl) mt_113 mt_123 rfl (by decide) rfl rfl (jsml_s rfl) rfl (ok_123 e22) ?_
  obtain ⟨h23, e24, e⟩ := jbind e
  refine ey_putf_r (cd_113 rfl) mt_113 rfl rfl rfl e24 ?_
  refine ey_aload_n (cd_113 rfl) rfl ?_
  obtain ⟨n25, e26, e⟩ := jbind e
  refine ey_new (cd_113 rfl) mt_113 rfl rfl jdf_2 e26 ?_
  refine ey_dup (cd_113 rfl) rfl ?_
  obtain ⟨h27, e28, e⟩ := jbind e
  refine ey_ci (s0 := [jR (some n25.1), jR (some n25.1), jR (some this)]) (s1 := [jR (some n25.1), jR (some this)]) (st' := [jR (some n25.1), jR (some this)]) (cd_113 rfl) mt_113 mt_21 rfl (by decide) rfl rfl (jsml_s rfl) rfl (ok_21 e28) ?_
  obtain ⟨h29, e30, e⟩ := jbind e
  refine ey_putf_r (cd_113 rfl) mt_113 rfl rfl rfl e30 ?_
  refine ey_aload_n (cd_113 rfl) rfl ?_
  refine ey_iconst (cd_113 rfl) ?_
  obtain ⟨n31, e32, e⟩ := jbind e
  refine ey_newarr (cd_113 rfl) (by decide) e32 ?_
  obtain ⟨h33, e34, e⟩ := jbind e
  refine ey_putf_r (cd_113 rfl) mt_113 rfl rfl rfl e34 ?_
  refine ey_aload_n (cd_113 rfl) rfl ?_
  refine ey_iconst (cd_113 rfl) ?_
  obtain ⟨h35, e36, e⟩ := jbind e
  refine ey_putf_i (cd_113 rfl) mt_113 rfl rfl rfl e36 ?_
  cases e
  exact ey_retv (cd_113 rfl) mt_113 rfl
theorem cd_116 {pc : Nat} {i : Instr × Nat} (h : mm_lk mm_c116 pc = some i) : mm_cd 116 pc = some i := h
theorem mt_116 : mm_MT 116 = (8, 8, none, 3, 1, []) := rfl
set_option maxRecDepth 100000 in
theorem jk_116_b90 {L : Nat} {xs : Nat → Int32} {x0 : Option Nat} {x1 : Int} {x2 : Option Nat} {x3 : Option Nat} {x4 : Int} {x5 : Int} {x6 : Int} {x7 : Int} {h : jH} {o : ((Int × Int × jH) ⊕ (Int × jH))} {r : mm_R} (e : jd_116_b90 x0 x1 x2 x3 x4 x5 x6 x7 h = some o) (K : jsm (fun s => (∀ lv : jL, lv 0 = some (jR x0) → lv 1 = some (jI x1) → lv 2 = some (jR x2) → lv 3 = some (jR x3) → lv 4 = some (jI x4) → lv 5 = some (jI s.1) → lv 6 = some (jI x6) → lv 7 = some (jI s.2.1) → ey (mm_xt L xs) 2 116 41 lv [] s.2.2 r)) (fun x => (∀ lv : jL, lv 0 = some (jR x0) → lv 1 = some (jI x1) → lv 2 = some (jR x2) → lv 3 = some (jR x3) → lv 4 = some (jI x4) → lv 5 = some (jI x.1) → lv 6 = some (jI x6) → ey (mm_xt L xs) 2 116 99 lv [] x.2 r)) o) : ∀ lv : jL, lv 0 = some (jR x0) → lv 1 = some (jI x1) → lv 2 = some (jR x2) → lv 3 = some (jR x3) → lv 4 = some (jI x4) → lv 5 = some (jI x5) → lv 6 = some (jI x6) → lv 7 = some (jI x7) → ey (mm_xt L xs) 2 116 90 lv [] h r := by
  intro lv f0 f1 f2 f3 f4 f5 f6 f7
  unfold jd_116_b90 at e
  refine ey_iinc (cd_116 rfl) mt_116 rfl f5 ?_
  refine ey_iinc (cd_116 rfl) mt_116 rfl f7 ?_
  refine ey_goto (cd_116 rfl) rfl ?_
  cases e
  exact K (jup (jup lv 5 (jI (x5 + 1))) 7 (jI (x7 + 1))) f0 f1 f2 f3 (jup_o rfl (jup_pi (lv := lv) (j := 4) (v := jI (x5 + 1)) (z := x4) f4)) rfl (jup_pi (lv := (jup lv 5 (jI (x5 + 1)))) (j := 6) (v := jI (x7 + 1)) (z := x6) f6) rfl
set_option maxRecDepth 100000 in
theorem jk_116_b89 {L : Nat} {xs : Nat → Int32} {x0 : Option Nat} {x1 : Int} {x2 : Option Nat} {x3 : Option Nat} {x4 : Int} {x5 : Int} {x6 : Int} {x7 : Int} {y0 : Int} {y1 : Int} {y2 : Option Nat} {h : jH} {o : ((Int × Int × jH) ⊕ (Int × jH))} {r : mm_R} (e : jd_116_b89 x0 x1 x2 x3 x4 x5 x6 x7 y0 y1 y2 h = some o) (K : jsm (fun s => (∀ lv : jL, lv 0 = some (jR x0) → lv 1 = some (jI x1) → lv 2 = some (jR x2) → lv 3 = some (jR x3) → lv 4 = some (jI x4) → lv 5 = some (jI s.1) → lv 6 = some (jI x6) → lv 7 = some (jI s.2.1) → ey (mm_xt L xs) 2 116 41 lv [] s.2.2 r)) (fun x => (∀ lv : jL, lv 0 = some (jR x0) → lv 1 = some (jI x1) → lv 2 = some (jR x2) → lv 3 = some (jR x3) → lv 4 = some (jI x4) → lv 5 = some (jI x.1) → lv 6 = some (jI x6) → ey (mm_xt L xs) 2 116 99 lv [] x.2 r)) o) : ∀ lv : jL, lv 0 = some (jR x0) → lv 1 = some (jI x1) → lv 2 = some (jR x2) → lv 3 = some (jR x3) → lv 4 = some (jI x4) → lv 5 = some (jI x5) → lv 6 = some (jI x6) → lv 7 = some (jI x7) → ey (mm_xt L xs) 2 116 89 lv [jI y0, jI y1, jR y2] h r := by
  intro lv f0 f1 f2 f3 f4 f5 f6 f7
  unfold jd_116_b89 at e
  obtain ⟨a42, e43, e⟩ := jbind e
  refine ey_rs (s0 := [jI y0, jI y1, jR y2]) (s1 := [jI y0, jI y1, jR (some a42)]) (by rw [e43]) ?_
  obtain ⟨h44, e45, e⟩ := jbind e
  refine ey_iast (cd_116 rfl) e45 ?_
  exact jk_116_b90 e K lv f0 f1 f2 f3 f4 f5 f6 f7
set_option maxRecDepth 100000 in
theorem jk_116_s41 {L : Nat} {xs : Nat → Int32} {x0 : Option Nat} {x1 : Int} {x2 : Option Nat} {x3 : Option Nat} {x4 : Int} {x6 : Int} {x5 : Int} {x7 : Int} {h : jH} {o : ((Int × Int × jH) ⊕ (Int × jH))} {r : mm_R} (e : jd_116_s41 x0 x1 x2 x3 x4 x6 x5 x7 h = some o) (K : jsm (fun s => (∀ lv : jL, lv 0 = some (jR x0) → lv 1 = some (jI x1) → lv 2 = some (jR x2) → lv 3 = some (jR x3) → lv 4 = some (jI x4) → lv 5 = some (jI s.1) → lv 6 = some (jI x6) → lv 7 = some (jI s.2.1) → ey (mm_xt L xs) 2 116 41 lv [] s.2.2 r)) (fun x => (∀ lv : jL, lv 0 = some (jR x0) → lv 1 = some (jI x1) → lv 2 = some (jR x2) → lv 3 = some (jR x3) → lv 4 = some (jI x4) → lv 5 = some (jI x.1) → lv 6 = some (jI x6) → ey (mm_xt L xs) 2 116 99 lv [] x.2 r)) o) : ∀ lv : jL, lv 0 = some (jR x0) → lv 1 = some (jI x1) → lv 2 = some (jR x2) → lv 3 = some (jR x3) → lv 4 = some (jI x4) → lv 5 = some (jI x5) → lv 6 = some (jI x6) → lv 7 = some (jI x7) → ey (mm_xt L xs) 2 116 41 lv [] h r := by
  intro lv f0 f1 f2 f3 f4 f5 f6 f7
  unfold jd_116_s41 at e
  refine ey_iload (cd_116 rfl) f7 ?_
  refine ey_aload_n (cd_116 rfl) f3 ?_
  refine ey_iload (cd_116 rfl) f4 ?_
  obtain ⟨a23, e24, e⟩ := jbind e
  refine ey_rs (s0 := [jI x4, jR x3, jI x7]) (s1 := [jI x4, jR (some a23), jI x7]) (by rw [e24]) ?_
  obtain ⟨u25, e26, e⟩ := jbind e
  obtain ⟨v27, e28, e⟩ := jbind e
  refine ey_cv (s0 := [jI x4, jR (some a23), jI x7]) (s1 := [jI x7]) (st' := [jI v27, jI x7]) (cd_116 rfl) mt_116 mt_96 rfl rfl rfl (jck_s e26) rfl (jsml_s rfl) rfl (mm_Runs.up (d := 1) (by decide) (ok_96 e28)) ?_
  by_cases q29 : (jw v27) ≤ (jw x7)
  · rw [if_pos q29] at e
    refine ey_cge (cd_116 rfl) rfl rfl rfl q29 ?_
    cases e
    exact K lv f0 f1 f2 f3 f4 f5 f6
  · rw [if_neg q29] at e
    refine ey_nge (cd_116 rfl) rfl rfl rfl q29 ?_
    refine ey_aload_n (cd_116 rfl) f0 ?_
    refine ey_iload_n (cd_116 rfl) f1 ?_
    refine ey_iload (cd_116 rfl) f4 ?_
    refine ey_iload (cd_116 rfl) f7 ?_
    refine ey_iload (cd_116 rfl) f6 ?_
    obtain ⟨a30, e31, e⟩ := jbind e
    refine ey_rs (s0 := [jI x6, jI x7, jI x4, jI x1, jR x0]) (s1 := [jI x6, jI x7, jI x4, jI x1, jR (some a30)]) (by rw [e31]) ?_
    obtain ⟨u32, e33, e⟩ := jbind e
    obtain ⟨v34, e35, e⟩ := jbind e
    refine ey_cv (s0 := [jI x6, jI x7, jI x4, jI x1, jR (some a30)]) (s1 := []) (st' := [jI v34]) (cd_116 rfl) mt_116 mt_43 rfl rfl rfl (jck_s e33) rfl (jsml_s rfl) rfl (ok_43 e35) ?_
    by_cases q36 : (jw v34) = 0
    · rw [if_pos q36] at e
      refine ey_zeq (cd_116 rfl) rfl rfl q36 ?_
      exact jk_116_b90 e K lv f0 f1 f2 f3 f4 f5 f6 f7
    · rw [if_neg q36] at e
      refine ey_yeq (cd_116 rfl) rfl rfl q36 ?_
      refine ey_aload_n (cd_116 rfl) f3 ?_
      obtain ⟨a37, e38, e⟩ := jbind e
      refine ey_rs (s0 := [jR x3]) (s1 := [jR (some a37)]) (by rw [e38]) ?_
      obtain ⟨r39, e40, e⟩ := jbind e
      refine ey_getf_r (cd_116 rfl) mt_116 rfl rfl rfl e40 ?_
      refine ey_iload (cd_116 rfl) f5 ?_
      refine ey_aload_n (cd_116 rfl) f2 ?_
      by_cases q41 : x2 = none
      · rw [if_pos q41] at e
        refine ey_rs (s0 := [jR x2, jI x5, jR r39]) (s1 := [jR none, jI x5, jR r39]) (by rw [q41]) ?_
        refine ey_ifnonnull_n (cd_116 rfl) rfl ?_
        refine ey_sipush (cd_116 rfl) (by decide) ?_
        refine ey_goto (cd_116 rfl) rfl ?_
        exact jk_116_b89 e K lv f0 f1 f2 f3 f4 f5 f6 f7
      · rw [if_neg q41] at e
        obtain ⟨w54, w54e⟩ := Option.ne_none_iff_exists'.mp q41
        refine ey_rs (s0 := [jR x2, jI x5, jR r39]) (s1 := [jR (some w54), jI x5, jR r39]) (by rw [w54e]) ?_
        refine ey_ifnonnull_s (cd_116 rfl) rfl ?_
        refine ey_aload_n (cd_116 rfl) f2 ?_
        obtain ⟨a46, e47, e⟩ := jbind e
        refine ey_rs (s0 := [jR x2, jI x5, jR r39]) (s1 := [jR (some a46), jI x5, jR r39]) (by rw [e47]) ?_
        obtain ⟨r48, e49, e⟩ := jbind e
        refine ey_getf_r (cd_116 rfl) mt_116 rfl rfl rfl e49 ?_
        refine ey_iload (cd_116 rfl) f5 ?_
        obtain ⟨a50, e51, e⟩ := jbind e
        refine ey_rs (s0 := [jI x5, jR r48, jI x5, jR r39]) (s1 := [jI x5, jR (some a50), jI x5, jR r39]) (by rw [e51]) ?_
        obtain ⟨v52, e53, e⟩ := jbind e
        refine ey_iald (cd_116 rfl) e53 ?_
        exact jk_116_b89 e K lv f0 f1 f2 f3 f4 f5 f6 f7
theorem jk_116_l41 {L : Nat} {xs : Nat → Int32} {x0 : Option Nat} {x1 : Int} {x2 : Option Nat} {x3 : Option Nat} {x4 : Int} {x6 : Int} {x5 : Int} {x7 : Int} {h : jH} {x : (Int × jH)} {r : mm_R} (e : jd_116_l41 x0 x1 x2 x3 x4 x6 x5 x7 h = some x) (K : (∀ lv : jL, lv 0 = some (jR x0) → lv 1 = some (jI x1) → lv 2 = some (jR x2) → lv 3 = some (jR x3) → lv 4 = some (jI x4) → lv 5 = some (jI x.1) → lv 6 = some (jI x6) → ey (mm_xt L xs) 2 116 99 lv [] x.2 r)) : ∀ lv : jL, lv 0 = some (jR x0) → lv 1 = some (jI x1) → lv 2 = some (jR x2) → lv 3 = some (jR x3) → lv 4 = some (jI x4) → lv 5 = some (jI x5) → lv 6 = some (jI x6) → lv 7 = some (jI x7) → ey (mm_xt L xs) 2 116 41 lv [] h r := by
  unfold jd_116_l41 at e
  exact jlp_ok2 (P := fun s => ∀ lv : jL, lv 0 = some (jR x0) → lv 1 = some (jI x1) → lv 2 = some (jR x2) → lv 3 = some (jR x3) → lv 4 = some (jI x4) → lv 5 = some (jI s.1) → lv 6 = some (jI x6) → lv 7 = some (jI s.2.1) → ey (mm_xt L xs) 2 116 41 lv [] s.2.2 r) (Q := fun x => (∀ lv : jL, lv 0 = some (jR x0) → lv 1 = some (jI x1) → lv 2 = some (jR x2) → lv 3 = some (jR x3) → lv 4 = some (jI x4) → lv 5 = some (jI x.1) → lv 6 = some (jI x6) → ey (mm_xt L xs) 2 116 99 lv [] x.2 r)) (fun s q hq hk => jk_116_s41 hq hk) jfu _ x e K
set_option maxRecDepth 100000 in
theorem jk_116_s27 {L : Nat} {xs : Nat → Int32} {x0 : Option Nat} {x1 : Int} {x2 : Option Nat} {x3 : Option Nat} {x4 : Int} {x5 : Int} {x6 : Int} {h : jH} {o : ((Int × Int × jH) ⊕ jH)} {r : mm_R} (e : jd_116_s27 x0 x1 x2 x3 x4 x5 x6 h = some o) (K : jsm (fun s => (∀ lv : jL, lv 0 = some (jR x0) → lv 1 = some (jI x1) → lv 2 = some (jR x2) → lv 3 = some (jR x3) → lv 4 = some (jI x4) → lv 5 = some (jI s.1) → lv 6 = some (jI s.2.1) → ey (mm_xt L xs) 2 116 27 lv [] s.2.2 r)) (fun x => (∀ lv : jL, lv 0 = some (jR x0) → lv 1 = some (jI x1) → lv 2 = some (jR x2) → lv 3 = some (jR x3) → lv 4 = some (jI x4) → ey (mm_xt L xs) 2 116 105 lv [] x r)) o) : ∀ lv : jL, lv 0 = some (jR x0) → lv 1 = some (jI x1) → lv 2 = some (jR x2) → lv 3 = some (jR x3) → lv 4 = some (jI x4) → lv 5 = some (jI x5) → lv 6 = some (jI x6) → ey (mm_xt L xs) 2 116 27 lv [] h r := by
  intro lv f0 f1 f2 f3 f4 f5 f6
  unfold jd_116_s27 at e
  refine ey_iload (cd_116 rfl) f6 ?_
  refine ey_aload_n (cd_116 rfl) f3 ?_
  refine ey_iload (cd_116 rfl) f4 ?_
  obtain ⟨a16, e17, e⟩ := jbind e
  refine ey_rs (s0 := [jI x4, jR x3, jI x6]) (s1 := [jI x4, jR (some a16), jI x6]) (by rw [e17]) ?_
  obtain ⟨u18, e19, e⟩ := jbind e
  obtain ⟨v20, e21, e⟩ := jbind e
  refine ey_cv (s0 := [jI x4, jR (some a16), jI x6]) (s1 := [jI x6]) (st' := [jI v20, jI x6]) (cd_116 rfl) mt_116 mt_97 rfl rfl rfl (jck_s e19) rfl (jsml_s rfl) rfl (mm_Runs.up (d := 1) (by decide) (ok_97 e21)) ?_
  by_cases q22 : (jw v20) ≤ (jw x6)
  · rw [if_pos q22] at e
    refine ey_cge (cd_116 rfl) rfl rfl rfl q22 ?_
    cases e
    exact K lv f0 f1 f2 f3 f4
  · rw [if_neg q22] at e
    refine ey_nge (cd_116 rfl) rfl rfl rfl q22 ?_
    refine ey_iconst (cd_116 rfl) ?_
    refine ey_istore (cd_116 rfl) mt_116 rfl ?_
    obtain ⟨x55, e56, e⟩ := jbind e
    refine jk_116_l41 e56 ?_ (jup lv 7 (jI 0)) f0 f1 f2 f3 f4 f5 (jup_pi (lv := lv) (j := 6) (v := jI 0) (z := x6) f6) rfl
    intro lv g0 g1 g2 g3 g4 g5 g6
    refine ey_iinc (cd_116 rfl) mt_116 rfl g6 ?_
    refine ey_goto (cd_116 rfl) rfl ?_
    cases e
    exact K (jup lv 6 (jI (x6 + 1))) g0 g1 g2 g3 g4 (jup_pi (lv := lv) (j := 5) (v := jI (x6 + 1)) (z := x55.1) g5) rfl
theorem jk_116_l27 {L : Nat} {xs : Nat → Int32} {x0 : Option Nat} {x1 : Int} {x2 : Option Nat} {x3 : Option Nat} {x4 : Int} {x5 : Int} {x6 : Int} {h : jH} {x : jH} {r : mm_R} (e : jd_116_l27 x0 x1 x2 x3 x4 x5 x6 h = some x) (K : (∀ lv : jL, lv 0 = some (jR x0) → lv 1 = some (jI x1) → lv 2 = some (jR x2) → lv 3 = some (jR x3) → lv 4 = some (jI x4) → ey (mm_xt L xs) 2 116 105 lv [] x r)) : ∀ lv : jL, lv 0 = some (jR x0) → lv 1 = some (jI x1) → lv 2 = some (jR x2) → lv 3 = some (jR x3) → lv 4 = some (jI x4) → lv 5 = some (jI x5) → lv 6 = some (jI x6) → ey (mm_xt L xs) 2 116 27 lv [] h r := by
  unfold jd_116_l27 at e
  exact jlp_ok2 (P := fun s => ∀ lv : jL, lv 0 = some (jR x0) → lv 1 = some (jI x1) → lv 2 = some (jR x2) → lv 3 = some (jR x3) → lv 4 = some (jI x4) → lv 5 = some (jI s.1) → lv 6 = some (jI s.2.1) → ey (mm_xt L xs) 2 116 27 lv [] s.2.2 r) (Q := fun x => (∀ lv : jL, lv 0 = some (jR x0) → lv 1 = some (jI x1) → lv 2 = some (jR x2) → lv 3 = some (jR x3) → lv 4 = some (jI x4) → ey (mm_xt L xs) 2 116 105 lv [] x r)) (fun s q hq hk => jk_116_s27 hq hk) jfu _ x e K
set_option maxRecDepth 100000 in
theorem jk_116_s10 {L : Nat} {xs : Nat → Int32} {x0 : Option Nat} {x1 : Int} {x2 : Option Nat} {x3 : Option Nat} {x4 : Int} {h : jH} {o : ((Int × jH) ⊕ jH)} {r : mm_R} (e : jd_116_s10 x0 x1 x2 x3 x4 h = some o) (K : jsm (fun s => (∀ lv : jL, lv 0 = some (jR x0) → lv 1 = some (jI x1) → lv 2 = some (jR x2) → lv 3 = some (jR x3) → lv 4 = some (jI s.1) → ey (mm_xt L xs) 2 116 10 lv [] s.2 r)) (fun x => (∀ lv : jL, ey (mm_xt L xs) 2 116 111 lv [] x r)) o) : ∀ lv : jL, lv 0 = some (jR x0) → lv 1 = some (jI x1) → lv 2 = some (jR x2) → lv 3 = some (jR x3) → lv 4 = some (jI x4) → ey (mm_xt L xs) 2 116 10 lv [] h r := by
  intro lv f0 f1 f2 f3 f4
  unfold jd_116_s10 at e
  refine ey_iload (cd_116 rfl) f4 ?_
  refine ey_iconst (cd_116 rfl) ?_
  by_cases q9 : 3 ≤ (jw x4)
  · rw [if_pos q9] at e
    refine ey_cge (cd_116 rfl) rfl rfl (show jw 3 = 3 from by decide) q9 ?_
    cases e
    exact K lv 
  · rw [if_neg q9] at e
    refine ey_nge (cd_116 rfl) rfl rfl (show jw 3 = 3 from by decide) q9 ?_
    refine ey_aload_n (cd_116 rfl) f3 ?_
    refine ey_iload (cd_116 rfl) f4 ?_
    obtain ⟨a10, e11, e⟩ := jbind e
    refine ey_rs (s0 := [jI x4, jR x3]) (s1 := [jI x4, jR (some a10)]) (by rw [e11]) ?_
    obtain ⟨u12, e13, e⟩ := jbind e
    obtain ⟨v14, e15, e⟩ := jbind e
    refine ey_cv (s0 := [jI x4, jR (some a10)]) (s1 := []) (st' := [jI v14]) (cd_116 rfl) mt_116 mt_98 rfl rfl rfl (jck_s e13) rfl (jsml_s rfl) rfl (mm_Runs.up (d := 1) (by decide) (ok_98 e15)) ?_
    refine ey_istore (cd_116 rfl) mt_116 rfl ?_
    refine ey_iconst (cd_116 rfl) ?_
    refine ey_istore (cd_116 rfl) mt_116 rfl ?_
    obtain ⟨x57, e58, e⟩ := jbind e
    refine jk_116_l27 e58 ?_ (jup (jup lv 5 (jI v14)) 6 (jI 0)) f0 f1 f2 f3 (jup_o rfl (jup_pi (lv := lv) (j := 4) (v := jI v14) (z := x4) f4)) (jup_pi (lv := (jup lv 5 (jI v14))) (j := 5) (v := jI 0) (z := v14) rfl) rfl
    intro lv g0 g1 g2 g3 g4
    refine ey_iinc (cd_116 rfl) mt_116 rfl g4 ?_
    refine ey_goto (cd_116 rfl) rfl ?_
    cases e
    exact K (jup lv 4 (jI (x4 + 1))) g0 g1 g2 (jup_pr (lv := lv) (j := 3) (v := jI (x4 + 1)) (z := x3) g3) rfl
theorem jk_116_l10 {L : Nat} {xs : Nat → Int32} {x0 : Option Nat} {x1 : Int} {x2 : Option Nat} {x3 : Option Nat} {x4 : Int} {h : jH} {x : jH} {r : mm_R} (e : jd_116_l10 x0 x1 x2 x3 x4 h = some x) (K : (∀ lv : jL, ey (mm_xt L xs) 2 116 111 lv [] x r)) : ∀ lv : jL, lv 0 = some (jR x0) → lv 1 = some (jI x1) → lv 2 = some (jR x2) → lv 3 = some (jR x3) → lv 4 = some (jI x4) → ey (mm_xt L xs) 2 116 10 lv [] h r := by
  unfold jd_116_l10 at e
  exact jlp_ok2 (P := fun s => ∀ lv : jL, lv 0 = some (jR x0) → lv 1 = some (jI x1) → lv 2 = some (jR x2) → lv 3 = some (jR x3) → lv 4 = some (jI s.1) → ey (mm_xt L xs) 2 116 10 lv [] s.2 r) (Q := fun x => (∀ lv : jL, ey (mm_xt L xs) 2 116 111 lv [] x r)) (fun s q hq hk => jk_116_s10 hq hk) jfu _ x e K
set_option maxRecDepth 100000 in
theorem ok_116 {L : Nat} {xs : Nat → Int32} {p0 : Option Nat} {p1 : Int} {p2 : Option Nat} {h : jH} {o : jH} (e : jd_116 p0 p1 p2 h = some o) : mm_Runs (mm_xt L xs) 3 116 ([jR p0, jI p1, jR p2].map jcv) (jaH h) (.inl (none, jaH o)) := by
  refine ey_run0 _ mt_116 (jsl_s rfl) ?_
  unfold jd_116 at e
  refine ey_aload_n (cd_116 rfl) rfl ?_
  obtain ⟨a1, e2, e⟩ := jbind e
  refine ey_rs (s0 := [jR p0]) (s1 := [jR (some a1)]) (by rw [e2]) ?_
  obtain ⟨r3, e4, e⟩ := jbind e
  refine ey_getf_r (cd_116 rfl) mt_116 rfl rfl rfl e4 ?_
  refine ey_iload_n (cd_116 rfl) rfl ?_
  obtain ⟨a5, e6, e⟩ := jbind e
  refine ey_rs (s0 := [jI p1, jR r3]) (s1 := [jI p1, jR (some a5)]) (by rw [e6]) ?_
  obtain ⟨r7, e8, e⟩ := jbind e
  refine ey_aald (cd_116 rfl) (by decide) e8 ?_
  refine ey_astore_n (cd_116 rfl) mt_116 rfl ?_
  refine ey_iconst (cd_116 rfl) ?_
  refine ey_istore (cd_116 rfl) mt_116 rfl ?_
  obtain ⟨x59, e60, e⟩ := jbind e
  refine jk_116_l10 e60 ?_ (jup (jup (jlf (jla 0 [jR p0, jI p1, jR p2])) 3 (jR r7)) 4 (jI 0)) rfl rfl (jup_o rfl (jup_pr (lv := (jlf (jla 0 [jR p0, jI p1, jR p2]))) (j := 2) (v := jR r7) (z := p2) rfl)) (jup_pr (lv := (jup (jlf (jla 0 [jR p0, jI p1, jR p2])) 3 (jR r7))) (j := 3) (v := jI 0) (z := r7) rfl) rfl
  intro lv 
  cases e
  exact ey_retv (cd_116 rfl) mt_116 rfl
theorem cd_118 {pc : Nat} {i : Instr × Nat} (h : mm_lk mm_c118 pc = some i) : mm_cd 118 pc = some i := h
theorem mt_118 : mm_MT 118 = (8, 7, none, 4, 0, []) := rfl
set_option maxRecDepth 100000 in
theorem jk_118_s6 {L : Nat} {xs : Nat → Int32} {this : Nat} {x1 : Option Nat} {x2 : Int} {x3 : Int} {x4 : Int} {x5 : Int} {x6 : Int} {h : jH} {o : ((Int × Int) ⊕ Int)} {r : mm_R} (e : jd_118_s6 this x1 x2 x3 x4 x5 x6 h = some o) (K : jsm (fun s => (∀ lv : jL, lv 0 = some (jR (some this)) → lv 1 = some (jR x1) → lv 2 = some (jI x2) → lv 3 = some (jI x3) → lv 4 = some (jI x4) → lv 5 = some (jI s.1) → lv 6 = some (jI s.2) → ey (mm_xt L xs) 1 118 6 lv [] h r)) (fun x => (∀ lv : jL, lv 0 = some (jR (some this)) → lv 1 = some (jR x1) → lv 2 = some (jI x2) → lv 3 = some (jI x3) → lv 4 = some (jI x4) → lv 5 = some (jI x) → ey (mm_xt L xs) 1 118 33 lv [] h r)) o) : ∀ lv : jL, lv 0 = some (jR (some this)) → lv 1 = some (jR x1) → lv 2 = some (jI x2) → lv 3 = some (jI x3) → lv 4 = some (jI x4) → lv 5 = some (jI x5) → lv 6 = some (jI x6) → ey (mm_xt L xs) 1 118 6 lv [] h r := by
  intro lv f0 f1 f2 f3 f4 f5 f6
  unfold jd_118_s6 at e
  refine ey_iload (cd_118 rfl) f6 ?_
  refine ey_bipush (cd_118 rfl) (by decide) ?_
  by_cases q1 : 6 ≤ (jw x6)
  · rw [if_pos q1] at e
    refine ey_cge (cd_118 rfl) rfl rfl (show jw 6 = 6 from by decide) q1 ?_
    cases e
    exact K lv f0 f1 f2 f3 f4 f5
  · rw [if_neg q1] at e
    refine ey_nge (cd_118 rfl) rfl rfl (show jw 6 = 6 from by decide) q1 ?_
    refine ey_iload (cd_118 rfl) f5 ?_
    refine ey_aload_n (cd_118 rfl) f0 ?_
    obtain ⟨r2, e3, e⟩ := jbind e
    refine ey_getf_r (cd_118 rfl) mt_118 rfl rfl rfl e3 ?_
    refine ey_iload (cd_118 rfl) f6 ?_
    obtain ⟨a4, e5, e⟩ := jbind e
    refine ey_rs (s0 := [jI x6, jR r2, jI x5]) (s1 := [jI x6, jR (some a4), jI x5]) (by rw [e5]) ?_
    obtain ⟨u6, e7, e⟩ := jbind e
    obtain ⟨v8, e9, e⟩ := jbind e
    refine ey_cv (s0 := [jI x6, jR (some a4), jI x5]) (s1 := [jI x5]) (st' := [jI v8, jI x5]) (cd_118 rfl) mt_118 mt_89 rfl rfl rfl (jck_s e7) rfl (jsml_s rfl) rfl (ok_89 e9) ?_
    refine ey_iadd (cd_118 rfl) ?_
    refine ey_istore (cd_118 rfl) mt_118 rfl ?_
    refine ey_iinc (cd_118 rfl) mt_118 rfl f6 ?_
    refine ey_goto (cd_118 rfl) rfl ?_
    cases e
    exact K (jup (jup lv 5 (jI (x5 + v8))) 6 (jI (x6 + 1))) f0 f1 f2 f3 (jup_o rfl (jup_pi (lv := lv) (j := 4) (v := jI (x5 + v8)) (z := x4) f4)) (jup_pi (lv := (jup lv 5 (jI (x5 + v8)))) (j := 5) (v := jI (x6 + 1)) (z := (x5 + v8)) rfl) rfl
theorem jk_118_l6 {L : Nat} {xs : Nat → Int32} {this : Nat} {x1 : Option Nat} {x2 : Int} {x3 : Int} {x4 : Int} {x5 : Int} {x6 : Int} {h : jH} {x : Int} {r : mm_R} (e : jd_118_l6 this x1 x2 x3 x4 x5 x6 h = some x) (K : (∀ lv : jL, lv 0 = some (jR (some this)) → lv 1 = some (jR x1) → lv 2 = some (jI x2) → lv 3 = some (jI x3) → lv 4 = some (jI x4) → lv 5 = some (jI x) → ey (mm_xt L xs) 1 118 33 lv [] h r)) : ∀ lv : jL, lv 0 = some (jR (some this)) → lv 1 = some (jR x1) → lv 2 = some (jI x2) → lv 3 = some (jI x3) → lv 4 = some (jI x4) → lv 5 = some (jI x5) → lv 6 = some (jI x6) → ey (mm_xt L xs) 1 118 6 lv [] h r := by
  unfold jd_118_l6 at e
  exact jlp_ok2 (P := fun s => ∀ lv : jL, lv 0 = some (jR (some this)) → lv 1 = some (jR x1) → lv 2 = some (jI x2) → lv 3 = some (jI x3) → lv 4 = some (jI x4) → lv 5 = some (jI s.1) → lv 6 = some (jI s.2) → ey (mm_xt L xs) 1 118 6 lv [] h r) (Q := fun x => (∀ lv : jL, lv 0 = some (jR (some this)) → lv 1 = some (jR x1) → lv 2 = some (jI x2) → lv 3 = some (jI x3) → lv 4 = some (jI x4) → lv 5 = some (jI x) → ey (mm_xt L xs) 1 118 33 lv [] h r)) (fun s q hq hk => jk_118_s6 hq hk) jfu _ x e K
set_option maxRecDepth 100000 in
theorem jk_118_s40 {L : Nat} {xs : Nat → Int32} {this : Nat} {x1 : Option Nat} {x2 : Int} {x4 : Int} {x5 : Int} {x6 : Int} {h : jH} {o : ((Int × jH) ⊕ jH)} {r : mm_R} (e : jd_118_s40 this x1 x2 x4 x5 x6 h = some o) (K : jsm (fun s => (∀ lv : jL, lv 0 = some (jR (some this)) → lv 1 = some (jR x1) → lv 2 = some (jI x2) → lv 4 = some (jI x4) → lv 5 = some (jI x5) → lv 6 = some (jI s.1) → ey (mm_xt L xs) 1 118 40 lv [] s.2 r)) (fun x => (∀ lv : jL, lv 1 = some (jR x1) → lv 2 = some (jI x2) → lv 4 = some (jI x4) → lv 5 = some (jI x5) → ey (mm_xt L xs) 1 118 70 lv [] x r)) o) : ∀ lv : jL, lv 0 = some (jR (some this)) → lv 1 = some (jR x1) → lv 2 = some (jI x2) → lv 4 = some (jI x4) → lv 5 = some (jI x5) → lv 6 = some (jI x6) → ey (mm_xt L xs) 1 118 40 lv [] h r := by
  intro lv f0 f1 f2 f4 f5 f6
  unfold jd_118_s40 at e
  refine ey_iload (cd_118 rfl) f6 ?_
  refine ey_iconst (cd_118 rfl) ?_
  by_cases q16 : 4 ≤ (jw x6)
  · rw [if_pos q16] at e
    refine ey_cge (cd_118 rfl) rfl rfl (show jw 4 = 4 from by decide) q16 ?_
    cases e
    exact K lv f1 f2 f4 f5
  · rw [if_neg q16] at e
    refine ey_nge (cd_118 rfl) rfl rfl (show jw 4 = 4 from by decide) q16 ?_
    refine ey_aload_n (cd_118 rfl) f1 ?_
    refine ey_iload_n (cd_118 rfl) f2 ?_
    refine ey_iconst (cd_118 rfl) ?_
    refine ey_iadd (cd_118 rfl) ?_
    refine ey_iload (cd_118 rfl) f6 ?_
    refine ey_iadd (cd_118 rfl) ?_
    refine ey_aload_n (cd_118 rfl) f0 ?_
    obtain ⟨r17, e18, e⟩ := jbind e
    refine ey_getf_r (cd_118 rfl) mt_118 rfl rfl rfl e18 ?_
    obtain ⟨a19, e20, e⟩ := jbind e
    refine ey_rs (s0 := [jR r17, jI ((x2 + 1) + x6), jR x1]) (s1 := [jR (some a19), jI ((x2 + 1) + x6), jR x1]) (by rw [e20]) ?_
    obtain ⟨r21, e22, e⟩ := jbind e
    refine ey_getf_r (cd_118 rfl) mt_118 rfl rfl rfl e22 ?_
    refine ey_iload (cd_118 rfl) f6 ?_
    obtain ⟨a23, e24, e⟩ := jbind e
    refine ey_rs (s0 := [jI x6, jR r21, jI ((x2 + 1) + x6), jR x1]) (s1 := [jI x6, jR (some a23), jI ((x2 + 1) + x6), jR x1]) (by rw [e24]) ?_
    obtain ⟨v25, e26, e⟩ := jbind e
    refine ey_iald (cd_118 rfl) e26 ?_
    obtain ⟨a27, e28, e⟩ := jbind e
    refine ey_rs (s0 := [jI v25, jI ((x2 + 1) + x6), jR x1]) (s1 := [jI v25, jI ((x2 + 1) + x6), jR (some a27)]) (by rw [e28]) ?_
    obtain ⟨h29, e30, e⟩ := jbind e
    refine ey_iast (cd_118 rfl) e30 ?_
    refine ey_iinc (cd_118 rfl) mt_118 rfl f6 ?_
    refine ey_goto (cd_118 rfl) rfl ?_
    cases e
    exact K (jup lv 6 (jI (x6 + 1))) f0 f1 f2 f4 (jup_pi (lv := lv) (j := 5) (v := jI (x6 + 1)) (z := x5) f5) rfl
theorem jk_118_l40 {L : Nat} {xs : Nat → Int32} {this : Nat} {x1 : Option Nat} {x2 : Int} {x4 : Int} {x5 : Int} {x6 : Int} {h : jH} {x : jH} {r : mm_R} (e : jd_118_l40 this x1 x2 x4 x5 x6 h = some x) (K : (∀ lv : jL, lv 1 = some (jR x1) → lv 2 = some (jI x2) → lv 4 = some (jI x4) → lv 5 = some (jI x5) → ey (mm_xt L xs) 1 118 70 lv [] x r)) : ∀ lv : jL, lv 0 = some (jR (some this)) → lv 1 = some (jR x1) → lv 2 = some (jI x2) → lv 4 = some (jI x4) → lv 5 = some (jI x5) → lv 6 = some (jI x6) → ey (mm_xt L xs) 1 118 40 lv [] h r := by
  unfold jd_118_l40 at e
  exact jlp_ok2 (P := fun s => ∀ lv : jL, lv 0 = some (jR (some this)) → lv 1 = some (jR x1) → lv 2 = some (jI x2) → lv 4 = some (jI x4) → lv 5 = some (jI x5) → lv 6 = some (jI s.1) → ey (mm_xt L xs) 1 118 40 lv [] s.2 r) (Q := fun x => (∀ lv : jL, lv 1 = some (jR x1) → lv 2 = some (jI x2) → lv 4 = some (jI x4) → lv 5 = some (jI x5) → ey (mm_xt L xs) 1 118 70 lv [] x r)) (fun s q hq hk => jk_118_s40 hq hk) jfu _ x e K
set_option maxRecDepth 100000 in
theorem ok_118 {L : Nat} {xs : Nat → Int32} {this : Nat} {p0 : Option Nat} {p1 : Int} {p2 : Int} {p3 : Int} {h : jH} {o : jH} (e : jd_118 this p0 p1 p2 p3 h = some o) : mm_Runs (mm_xt L xs) 2 118 ([jR (some this), jR p0, jI p1, jI p2, jI p3].map jcv) (jaH h) (.inl (none, jaH o)) := by
  refine ey_run0 _ mt_118 (jsl_s rfl) ?_
  unfold jd_118 at e
  refine ey_iconst (cd_118 rfl) ?_
  refine ey_istore (cd_118 rfl) mt_118 rfl ?_
  refine ey_iconst (cd_118 rfl) ?_
  refine ey_istore (cd_118 rfl) mt_118 rfl ?_
  obtain ⟨x10, e11, e⟩ := jbind e
  refine jk_118_l6 e11 ?_ (jup (jup (jlf (jla 0 [jR (some this), jR p0, jI p1, jI p2, jI p3])) 5 (jI 0)) 6 (jI 0)) rfl rfl rfl rfl (jup_o rfl (jup_pi (lv := (jlf (jla 0 [jR (some this), jR p0, jI p1, jI p2, jI p3]))) (j := 4) (v := jI 0) (z := p3) rfl)) (jup_pi (lv := (jup (jlf (jla 0 [jR (some this), jR p0, jI p1, jI p2, jI p3])) 5 (jI 0))) (j := 5) (v := jI 0) (z := 0) rfl) rfl
  intro lv g0 g1 g2 g3 g4 g5
  refine ey_aload_n (cd_118 rfl) g1 ?_
  refine ey_iload_n (cd_118 rfl) g2 ?_
  refine ey_iload_n (cd_118 rfl) g3 ?_
  obtain ⟨a12, e13, e⟩ := jbind e
  refine ey_rs (s0 := [jI p2, jI p1, jR p0]) (s1 := [jI p2, jI p1, jR (some a12)]) (by rw [e13]) ?_
  obtain ⟨h14, e15, e⟩ := jbind e
  refine ey_iast (cd_118 rfl) e15 ?_
  refine ey_iconst (cd_118 rfl) ?_
  refine ey_istore (cd_118 rfl) mt_118 rfl ?_
  obtain ⟨x31, e32, e⟩ := jbind e
  refine jk_118_l40 e32 ?_ (jup lv 6 (jI 0)) g0 g1 g2 g4 (jup_pi (lv := lv) (j := 5) (v := jI 0) (z := x10) g5) rfl
  intro lv g1 g2 g4 g5
  refine ey_aload_n (cd_118 rfl) g1 ?_
  refine ey_iload_n (cd_118 rfl) g2 ?_
  refine ey_iconst (cd_118 rfl) ?_
  refine ey_iadd (cd_118 rfl) ?_
  refine ey_iload (cd_118 rfl) g5 ?_
  obtain ⟨a33, e34, e⟩ := jbind e
  refine ey_rs (s0 := [jI x10, jI (p1 + 5), jR p0]) (s1 := [jI x10, jI (p1 + 5), jR (some a33)]) (by rw [e34]) ?_
  obtain ⟨h35, e36, e⟩ := jbind e
  refine ey_iast (cd_118 rfl) e36 ?_
  refine ey_aload_n (cd_118 rfl) g1 ?_
  refine ey_iload_n (cd_118 rfl) g2 ?_
  refine ey_bipush (cd_118 rfl) (by decide) ?_
  refine ey_iadd (cd_118 rfl) ?_
  refine ey_iload (cd_118 rfl) g4 ?_
  obtain ⟨a37, e38, e⟩ := jbind e
  refine ey_rs (s0 := [jI p3, jI (p1 + 6), jR p0]) (s1 := [jI p3, jI (p1 + 6), jR (some a37)]) (by rw [e38]) ?_
  obtain ⟨h39, e40, e⟩ := jbind e
  refine ey_iast (cd_118 rfl) e40 ?_
  cases e
  exact ey_retv (cd_118 rfl) mt_118 rfl
theorem cd_120 {pc : Nat} {i : Instr × Nat} (h : mm_lk mm_c120 pc = some i) : mm_cd 120 pc = some i := h
theorem mt_120 : mm_MT 120 = (8, 8, some .int, 1, 0, []) := rfl
set_option maxRecDepth 100000 in
theorem jk_120_s33 {L : Nat} {xs : Nat → Int32} {this : Nat} {x1 : Int} {x2 : Int} {x3 : Int} {x4 : Int} {h : jH} {o : ((Int × Int × jH) ⊕ (jH ⊕ (jH ⊕ (jH ⊕ (jH ⊕ jH)))))} {r : mm_R} (e : jd_120_s33 this x1 x2 x3 x4 h = some o) (K : jsm (fun s => (∀ lv : jL, lv 0 = some (jR (some this)) → lv 1 = some (jI x1) → lv 2 = some (jI x2) → lv 3 = some (jI s.1) → lv 4 = some (jI s.2.1) → ey (mm_xt L xs) 2 120 33 lv [] s.2.2 r)) (fun x => (jsm (fun y => (∀ lv : jL, lv 0 = some (jR (some this)) → ey (mm_xt L xs) 2 120 53 lv [] y r)) (fun z => (jsm (fun y => (∀ lv : jL, ey (mm_xt L xs) 2 120 72 lv [] y r)) (fun z => (jsm (fun y => (∀ lv : jL, lv 0 = some (jR (some this)) → ey (mm_xt L xs) 2 120 88 lv [] y r)) (fun z => (jsm (fun y => (∀ lv : jL, ey (mm_xt L xs) 2 120 124 lv [] y r)) (fun z => (∀ lv : jL, ey (mm_xt L xs) 2 120 151 lv [] z r)) z)) z)) z)) x)) o) : ∀ lv : jL, lv 0 = some (jR (some this)) → lv 1 = some (jI x1) → lv 2 = some (jI x2) → lv 3 = some (jI x3) → lv 4 = some (jI x4) → ey (mm_xt L xs) 2 120 33 lv [] h r := by
  intro lv f0 f1 f2 f3 f4
  unfold jd_120_s33 at e
  refine ey_iload (cd_120 rfl) f4 ?_
  refine ey_iload_n (cd_120 rfl) f2 ?_
  by_cases q11 : (jw x2) ≤ (jw x4)
  · rw [if_pos q11] at e
    refine ey_cge (cd_120 rfl) rfl rfl rfl q11 ?_
    cases e
    exact K lv 
  · rw [if_neg q11] at e
    refine ey_nge (cd_120 rfl) rfl rfl rfl q11 ?_
    refine ey_aload_n (cd_120 rfl) f0 ?_
    obtain ⟨r12, e13, e⟩ := jbind e
    refine ey_getf_r (cd_120 rfl) mt_120 rfl rfl rfl e13 ?_
    obtain ⟨a14, e15, e⟩ := jbind e
    refine ey_rs (s0 := [jR r12]) (s1 := [jR (some a14)]) (by rw [e15]) ?_
    obtain ⟨u16, e17, e⟩ := jbind e
    obtain ⟨q18, e19, e⟩ := jbind e
    refine ey_cv (s0 := [jR (some a14)]) (s1 := []) (st' := [jI q18.1]) (cd_120 rfl) mt_120 mt_2 rfl rfl rfl (jck_s e17) rfl (jsml_s rfl) rfl (ok_2 e19) ?_
    refine ey_istore (cd_120 rfl) mt_120 rfl ?_
    refine ey_iload (cd_120 rfl) rfl ?_
    by_cases q20 : 0 ≤ (jw q18.1)
    · rw [if_pos q20] at e
      refine ey_zge (cd_120 rfl) rfl rfl q20 ?_
      refine ey_iload_n (cd_120 rfl) f3 ?_
      refine ey_iload (cd_120 rfl) rfl ?_
      refine ey_iadd (cd_120 rfl) ?_
      refine ey_istore_n (cd_120 rfl) mt_120 rfl ?_
      refine ey_iload_n (cd_120 rfl) rfl ?_
      refine ey_bipush (cd_120 rfl) (by decide) ?_
      by_cases q21 : (jw (x3 + q18.1)) ≤ 15
      · rw [if_pos q21] at e
        refine ey_cle (cd_120 rfl) rfl rfl (show jw 15 = 15 from by decide) q21 ?_
        refine ey_aload_n (cd_120 rfl) f0 ?_
        obtain ⟨r22, e23, e⟩ := jbind e
        refine ey_getf_r (cd_120 rfl) mt_120 rfl rfl rfl e23 ?_
        obtain ⟨a24, e25, e⟩ := jbind e
        refine ey_rs (s0 := [jR r22]) (s1 := [jR (some a24)]) (by rw [e25]) ?_
        obtain ⟨u26, e27, e⟩ := jbind e
        obtain ⟨q28, e29, e⟩ := jbind e
        refine ey_cv (s0 := [jR (some a24)]) (s1 := []) (st' := [jI q28.1]) (cd_120 rfl) mt_120 mt_2 rfl rfl rfl (jck_s e27) rfl (jsml_s rfl) rfl (ok_2 e29) ?_
        refine ey_istore (cd_120 rfl) mt_120 rfl ?_
        refine ey_iload (cd_120 rfl) rfl ?_
        by_cases q30 : 0 ≤ (jw q28.1)
        · rw [if_pos q30] at e
          refine ey_zge (cd_120 rfl) rfl rfl q30 ?_
          refine ey_iload (cd_120 rfl) rfl ?_
          refine ey_cs (s0 := [jI q28.1]) (s1 := []) (st' := [jI (jd_14 q28.1)]) (cd_120 rfl) mt_120 mt_14 rfl (by decide) rfl rfl (jsml_s rfl) rfl (mm_Runs.up (d := 1) (by decide) (ok_14 )) ?_
          refine ey_istore (cd_120 rfl) mt_120 rfl ?_
          refine ey_iload (cd_120 rfl) rfl ?_
          by_cases q31 : (jw (jd_14 q28.1)) = 0
          · rw [if_pos q31] at e
            refine ey_zeq (cd_120 rfl) rfl rfl q31 ?_
            cases e
            exact K (jup (jup (jup (jup lv 5 (jI q18.1)) 3 (jI (x3 + q18.1))) 6 (jI q28.1)) 7 (jI (jd_14 q28.1))) 
          · rw [if_neg q31] at e
            refine ey_yeq (cd_120 rfl) rfl rfl q31 ?_
            refine ey_iload (cd_120 rfl) rfl ?_
            refine ey_sipush (cd_120 rfl) (by decide) ?_
            by_cases q32 : (jw (jd_14 q28.1)) < (-4095)
            · rw [if_pos q32] at e
              refine ey_clt (cd_120 rfl) rfl rfl (show jw (-4095) = (-4095) from by decide) q32 ?_
              cases e
              exact K (jup (jup (jup (jup lv 5 (jI q18.1)) 3 (jI (x3 + q18.1))) 6 (jI q28.1)) 7 (jI (jd_14 q28.1))) 
            · rw [if_neg q32] at e
              refine ey_nlt (cd_120 rfl) rfl rfl (show jw (-4095) = (-4095) from by decide) q32 ?_
              refine ey_iload (cd_120 rfl) rfl ?_
              refine ey_sipush (cd_120 rfl) (by decide) ?_
              by_cases q33 : (jw (jd_14 q28.1)) ≤ 4095
              · rw [if_pos q33] at e
                refine ey_cle (cd_120 rfl) rfl rfl (show jw 4095 = 4095 from by decide) q33 ?_
                refine ey_aload_n (cd_120 rfl) f0 ?_
                obtain ⟨r34, e35, e⟩ := jbind e
                refine ey_getf_r (cd_120 rfl) mt_120 rfl rfl rfl e35 ?_
                obtain ⟨a36, e37, e⟩ := jbind e
                refine ey_rs (s0 := [jR r34]) (s1 := [jR (some a36)]) (by rw [e37]) ?_
                obtain ⟨r38, e39, e⟩ := jbind e
                refine ey_getf_r (cd_120 rfl) mt_120 rfl rfl rfl e39 ?_
                refine ey_bipush (cd_120 rfl) (by decide) ?_
                refine ey_iload_n (cd_120 rfl) f1 ?_
                refine ey_imul (cd_120 rfl) ?_
                refine ey_iload_n (cd_120 rfl) rfl ?_
                refine ey_iadd (cd_120 rfl) ?_
                refine ey_iload (cd_120 rfl) rfl ?_
                obtain ⟨a40, e41, e⟩ := jbind e
                refine ey_rs (s0 := [jI (jd_14 q28.1), jI ((16 * x1) + (x3 + q18.1)), jR r38]) (s1 := [jI (jd_14 q28.1), jI ((16 * x1) + (x3 + q18.1)), jR (some a40)]) (by rw [e41]) ?_
                obtain ⟨h42, e43, e⟩ := jbind e
                refine ey_iast (cd_120 rfl) e43 ?_
                refine ey_iinc (cd_120 rfl) mt_120 rfl rfl ?_
                refine ey_iinc (cd_120 rfl) mt_120 rfl (jup_o rfl (jup_o rfl (jup_o rfl (jup_o rfl (jup_pi (lv := lv) (j := 4) (v := jI q18.1) (z := x4) f4))))) ?_
                refine ey_goto (cd_120 rfl) rfl ?_
                cases e
                exact K (jup (jup (jup (jup (jup (jup lv 5 (jI q18.1)) 3 (jI (x3 + q18.1))) 6 (jI q28.1)) 7 (jI (jd_14 q28.1))) 3 (jI ((x3 + q18.1) + 1))) 4 (jI (x4 + 1))) f0 f1 (jup_o rfl (jup_pi (lv := (jup (jup (jup (jup lv 5 (jI q18.1)) 3 (jI (x3 + q18.1))) 6 (jI q28.1)) 7 (jI (jd_14 q28.1)))) (j := 2) (v := jI ((x3 + q18.1) + 1)) (z := x2) (jup_o rfl (jup_o rfl (jup_pi (lv := (jup lv 5 (jI q18.1))) (j := 2) (v := jI (x3 + q18.1)) (z := x2) f2))))) (jup_pi (lv := (jup (jup (jup (jup (jup lv 5 (jI q18.1)) 3 (jI (x3 + q18.1))) 6 (jI q28.1)) 7 (jI (jd_14 q28.1))) 3 (jI ((x3 + q18.1) + 1)))) (j := 3) (v := jI (x4 + 1)) (z := ((x3 + q18.1) + 1)) rfl) rfl
              · rw [if_neg q33] at e
                refine ey_nle (cd_120 rfl) rfl rfl (show jw 4095 = 4095 from by decide) q33 ?_
                cases e
                exact K (jup (jup (jup (jup lv 5 (jI q18.1)) 3 (jI (x3 + q18.1))) 6 (jI q28.1)) 7 (jI (jd_14 q28.1))) 
        · rw [if_neg q30] at e
          refine ey_yge (cd_120 rfl) rfl rfl q30 ?_
          cases e
          exact K (jup (jup (jup lv 5 (jI q18.1)) 3 (jI (x3 + q18.1))) 6 (jI q28.1)) f0
      · rw [if_neg q21] at e
        refine ey_nle (cd_120 rfl) rfl rfl (show jw 15 = 15 from by decide) q21 ?_
        cases e
        exact K (jup (jup lv 5 (jI q18.1)) 3 (jI (x3 + q18.1))) 
    · rw [if_neg q20] at e
      refine ey_yge (cd_120 rfl) rfl rfl q20 ?_
      cases e
      exact K (jup lv 5 (jI q18.1)) f0
theorem jk_120_l33 {L : Nat} {xs : Nat → Int32} {this : Nat} {x1 : Int} {x2 : Int} {x3 : Int} {x4 : Int} {h : jH} {x : (jH ⊕ (jH ⊕ (jH ⊕ (jH ⊕ jH))))} {r : mm_R} (e : jd_120_l33 this x1 x2 x3 x4 h = some x) (K : (jsm (fun y => (∀ lv : jL, lv 0 = some (jR (some this)) → ey (mm_xt L xs) 2 120 53 lv [] y r)) (fun z => (jsm (fun y => (∀ lv : jL, ey (mm_xt L xs) 2 120 72 lv [] y r)) (fun z => (jsm (fun y => (∀ lv : jL, lv 0 = some (jR (some this)) → ey (mm_xt L xs) 2 120 88 lv [] y r)) (fun z => (jsm (fun y => (∀ lv : jL, ey (mm_xt L xs) 2 120 124 lv [] y r)) (fun z => (∀ lv : jL, ey (mm_xt L xs) 2 120 151 lv [] z r)) z)) z)) z)) x)) : ∀ lv : jL, lv 0 = some (jR (some this)) → lv 1 = some (jI x1) → lv 2 = some (jI x2) → lv 3 = some (jI x3) → lv 4 = some (jI x4) → ey (mm_xt L xs) 2 120 33 lv [] h r := by
  unfold jd_120_l33 at e
  exact jlp_ok2 (P := fun s => ∀ lv : jL, lv 0 = some (jR (some this)) → lv 1 = some (jI x1) → lv 2 = some (jI x2) → lv 3 = some (jI s.1) → lv 4 = some (jI s.2.1) → ey (mm_xt L xs) 2 120 33 lv [] s.2.2 r) (Q := fun x => (jsm (fun y => (∀ lv : jL, lv 0 = some (jR (some this)) → ey (mm_xt L xs) 2 120 53 lv [] y r)) (fun z => (jsm (fun y => (∀ lv : jL, ey (mm_xt L xs) 2 120 72 lv [] y r)) (fun z => (jsm (fun y => (∀ lv : jL, lv 0 = some (jR (some this)) → ey (mm_xt L xs) 2 120 88 lv [] y r)) (fun z => (jsm (fun y => (∀ lv : jL, ey (mm_xt L xs) 2 120 124 lv [] y r)) (fun z => (∀ lv : jL, ey (mm_xt L xs) 2 120 151 lv [] z r)) z)) z)) z)) x)) (fun s q hq hk => jk_120_s33 hq hk) jfu _ x e K
set_option maxRecDepth 100000 in
theorem ok_120 {L : Nat} {xs : Nat → Int32} {this : Nat} {p0 : Int} {h : jH} {o : (Int × jH)} (e : jd_120 this p0 h = some o) : mm_Runs (mm_xt L xs) 3 120 ([jR (some this), jI p0].map jcv) (jaH h) (.inl (some (jcv (jI o.1)), jaH o.2)) := by
  refine ey_run0 _ mt_120 (jsl_s rfl) ?_
  unfold jd_120 at e
  refine ey_aload_n (cd_120 rfl) rfl ?_
  obtain ⟨r1, e2, e⟩ := jbind e
  refine ey_getf_r (cd_120 rfl) mt_120 rfl rfl rfl e2 ?_
  obtain ⟨a3, e4, e⟩ := jbind e
  refine ey_rs (s0 := [jR r1]) (s1 := [jR (some a3)]) (by rw [e4]) ?_
  obtain ⟨u5, e6, e⟩ := jbind e
  obtain ⟨q7, e8, e⟩ := jbind e
  refine ey_cv (s0 := [jR (some a3)]) (s1 := []) (st' := [jI q7.1]) (cd_120 rfl) mt_120 mt_2 rfl rfl rfl (jck_s e6) rfl (jsml_s rfl) rfl (ok_2 e8) ?_
  refine ey_istore_n (cd_120 rfl) mt_120 rfl ?_
  refine ey_iload_n (cd_120 rfl) rfl ?_
  by_cases q9 : 0 ≤ (jw q7.1)
  · rw [if_pos q9] at e
    refine ey_zge (cd_120 rfl) rfl rfl q9 ?_
    refine ey_iload_n (cd_120 rfl) rfl ?_
    refine ey_bipush (cd_120 rfl) (by decide) ?_
    by_cases q10 : (jw q7.1) ≤ 16
    · rw [if_pos q10] at e
      refine ey_cle (cd_120 rfl) rfl rfl (show jw 16 = 16 from by decide) q10 ?_
      refine ey_iconst (cd_120 rfl) ?_
      refine ey_istore_n (cd_120 rfl) mt_120 rfl ?_
      refine ey_iconst (cd_120 rfl) ?_
      refine ey_istore (cd_120 rfl) mt_120 rfl ?_
      obtain ⟨x44, e45, e⟩ := jbind e
      refine jk_120_l33 e45 ?_ (jup (jup (jup (jlf (jla 0 [jR (some this), jI p0])) 2 (jI q7.1)) 3 (jI 0)) 4 (jI 0)) rfl (jup_o rfl (jup_o rfl (jup_pi (lv := (jlf (jla 0 [jR (some this), jI p0]))) (j := 1) (v := jI q7.1) (z := p0) rfl))) (jup_o rfl (jup_pi (lv := (jup (jlf (jla 0 [jR (some this), jI p0])) 2 (jI q7.1))) (j := 2) (v := jI 0) (z := q7.1) rfl)) (jup_pi (lv := (jup (jup (jlf (jla 0 [jR (some this), jI p0])) 2 (jI q7.1)) 3 (jI 0))) (j := 3) (v := jI 0) (z := 0) rfl) rfl
      cases x44 with
      | inl y46 =>
        replace e : (((jgr y46 this 8 0).bind fun r48 => ((r48).bind fun a50 => ((jgi y46 a50 0 3).bind fun v52 => some (v52, y46)))) : Option (Int × jH)) = some o := e
        intro lv g0
        refine ey_aload_n (cd_120 rfl) g0 ?_
        obtain ⟨r48, e49, e⟩ := jbind e
        refine ey_getf_r (cd_120 rfl) mt_120 rfl rfl rfl e49 ?_
        obtain ⟨a50, e51, e⟩ := jbind e
        refine ey_rs (s0 := [jR r48]) (s1 := [jR (some a50)]) (by rw [e51]) ?_
        obtain ⟨v52, e53, e⟩ := jbind e
        refine ey_getf_i (cd_120 rfl) mt_120 rfl rfl rfl e53 ?_
        cases e
        exact ey_reti (cd_120 rfl) mt_120 rfl
      | inr y47 =>
        replace e : (jse y47 (fun y54 => some (4, y54)) (fun y55 => jse y55 (fun y56 => ((jgr y56 this 8 0).bind fun r58 => ((r58).bind fun a60 => ((jgi y56 a60 0 3).bind fun v62 => some (v62, y56))))) (fun y57 => jse y57 (fun y64 => some (5, y64)) (fun y65 => some (0, y65)))) : Option (Int × jH)) = some o := e
        cases y47 with
        | inl y54 =>
          replace e : (some (4, y54) : Option (Int × jH)) = some o := e
          intro lv 
          refine ey_iconst (cd_120 rfl) ?_
          cases e
          exact ey_reti (cd_120 rfl) mt_120 rfl
        | inr y55 =>
          replace e : (jse y55 (fun y56 => ((jgr y56 this 8 0).bind fun r58 => ((r58).bind fun a60 => ((jgi y56 a60 0 3).bind fun v62 => some (v62, y56))))) (fun y57 => jse y57 (fun y64 => some (5, y64)) (fun y65 => some (0, y65))) : Option (Int × jH)) = some o := e
          cases y55 with
          | inl y56 =>
            replace e : (((jgr y56 this 8 0).bind fun r58 => ((r58).bind fun a60 => ((jgi y56 a60 0 3).bind fun v62 => some (v62, y56)))) : Option (Int × jH)) = some o := e
            intro lv g0
            refine ey_aload_n (cd_120 rfl) g0 ?_
            obtain ⟨r58, e59, e⟩ := jbind e
            refine ey_getf_r (cd_120 rfl) mt_120 rfl rfl rfl e59 ?_
            obtain ⟨a60, e61, e⟩ := jbind e
            refine ey_rs (s0 := [jR r58]) (s1 := [jR (some a60)]) (by rw [e61]) ?_
            obtain ⟨v62, e63, e⟩ := jbind e
            refine ey_getf_i (cd_120 rfl) mt_120 rfl rfl rfl e63 ?_
            cases e
            exact ey_reti (cd_120 rfl) mt_120 rfl
          | inr y57 =>
            replace e : (jse y57 (fun y64 => some (5, y64)) (fun y65 => some (0, y65)) : Option (Int × jH)) = some o := e
            cases y57 with
            | inl y64 =>
              replace e : (some (5, y64) : Option (Int × jH)) = some o := e
              intro lv 
              refine ey_iconst (cd_120 rfl) ?_
              cases e
              exact ey_reti (cd_120 rfl) mt_120 rfl
            | inr y65 =>
              replace e : (some (0, y65) : Option (Int × jH)) = some o := e
              intro lv 
              refine ey_iconst (cd_120 rfl) ?_
              cases e
              exact ey_reti (cd_120 rfl) mt_120 rfl
    · rw [if_neg q10] at e
      refine ey_nle (cd_120 rfl) rfl rfl (show jw 16 = 16 from by decide) q10 ?_
      refine ey_iconst (cd_120 rfl) ?_
      cases e
      exact ey_reti (cd_120 rfl) mt_120 rfl
  · rw [if_neg q9] at e
    refine ey_yge (cd_120 rfl) rfl rfl q9 ?_
    refine ey_aload_n (cd_120 rfl) rfl ?_
    obtain ⟨r66, e67, e⟩ := jbind e
    refine ey_getf_r (cd_120 rfl) mt_120 rfl rfl rfl e67 ?_
    obtain ⟨a68, e69, e⟩ := jbind e
    refine ey_rs (s0 := [jR r66]) (s1 := [jR (some a68)]) (by rw [e69]) ?_
    obtain ⟨v70, e71, e⟩ := jbind e
    refine ey_getf_i (cd_120 rfl) mt_120 rfl rfl rfl e71 ?_
    cases e
    exact ey_reti (cd_120 rfl) mt_120 rfl
