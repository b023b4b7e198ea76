theorem cd_68 {pc : Nat} {i : Instr × Nat} (h : mm_lk mm_c68 pc = some i) : mm_cd 68 pc = some i := h
theorem mt_68 : mm_MT 68 = (4, 5, none, 4, 0, []) := rfl
def jd_68 (this : Nat) (p0 : Option Nat) (p1 : Option Nat) (p2 : Int) (p3 : Option Nat) (h : jH) : Option jH :=
  ((jpi h this 4 5 0).bind fun h1 => ((jpr h1 this 4 6 p3).bind fun h3 => ((p1).bind fun a5 => ((jgr h3 a5 2 15).bind fun r7 => ((r7).bind fun a9 => ((jar h3 a9 6 0).bind fun r11 => ((p1).bind fun a13 => ((jgi h3 a13 2 3).bind fun v15 => ((p0).bind fun a17 => ((jck h3 a17 2).bind fun u19 => ((jd_26 a17 0 r11 v15 p2 h3).bind fun h21 => ((p1).bind fun a23 => ((jgi h21 a23 2 1).bind fun v25 => ((p1).bind fun a27 => ((jgi h21 a27 2 2).bind fun v29 => ((p0).bind fun a31 => ((jck h21 a31 2).bind fun u33 => ((jd_28 a31 v25 v29 0 p2 h21).bind fun h35 => some h35))))))))))))))))))
set_option maxRecDepth 100000 in
theorem ok_68 {L : Nat} {xs : Nat → Int32} {this : Nat} {p0 : Option Nat} {p1 : Option Nat} {p2 : Int} {p3 : Option Nat} {h : jH} {o : jH} (e : jd_68 this p0 p1 p2 p3 h = some o) : mm_Runs (mm_xt L xs) 4 68 ([jR (some this), jR p0, jR p1, jI p2, jR p3].map jcv) (jaH h) (.inl (none, jaH o)) := by
  refine ey_run0 _ mt_68 (jsl_s rfl) ?_
  unfold jd_68 at e
  refine ey_aload_n (cd_68 rfl) rfl ?_
  refine ey_iconst (cd_68 rfl) ?_
  obtain ⟨h1, e2, e⟩ := jbind e
  refine ey_putf_i (cd_68 rfl) mt_68 rfl rfl rfl e2 ?_
  refine ey_aload_n (cd_68 rfl) rfl ?_
  refine ey_aload (cd_68 rfl) rfl ?_
  obtain ⟨h3, e4, e⟩ := jbind e
  refine ey_putf_r (cd_68 rfl) mt_68 rfl rfl rfl e4 ?_
  refine ey_aload_n (cd_68 rfl) rfl ?_
  refine ey_iconst (cd_68 rfl) ?_
  refine ey_aload_n (cd_68 rfl) rfl ?_
  obtain ⟨a5, e6, e⟩ := jbind e
  refine ey_rs (s0 := [jR p1, jI 0, jR p0]) (s1 := [jR (some a5), jI 0, jR p0]) (by rw [e6]) ?_
  obtain ⟨r7, e8, e⟩ := jbind e
  refine ey_getf_r (cd_68 rfl) mt_68 rfl rfl rfl e8 ?_
  refine ey_iconst (cd_68 rfl) ?_
  obtain ⟨a9, e10, e⟩ := jbind e
  refine ey_rs (s0 := [jI 0, jR r7, jI 0, jR p0]) (s1 := [jI 0, jR (some a9), jI 0, jR p0]) (by rw [e10]) ?_
  obtain ⟨r11, e12, e⟩ := jbind e
  refine ey_aald (cd_68 rfl) (by decide) e12 ?_
  refine ey_aload_n (cd_68 rfl) rfl ?_
  obtain ⟨a13, e14, e⟩ := jbind e
  refine ey_rs (s0 := [jR p1, jR r11, jI 0, jR p0]) (s1 := [jR (some a13), jR r11, jI 0, jR p0]) (by rw [e14]) ?_
  obtain ⟨v15, e16, e⟩ := jbind e
  refine ey_getf_i (cd_68 rfl) mt_68 rfl rfl rfl e16 ?_
  refine ey_iload_n (cd_68 rfl) rfl ?_
  obtain ⟨a17, e18, e⟩ := jbind e
  refine ey_rs (s0 := [jI p2, jI v15, jR r11, jI 0, jR p0]) (s1 := [jI p2, jI v15, jR r11, jI 0, jR (some a17)]) (by rw [e18]) ?_
  obtain ⟨u19, e20, e⟩ := jbind e
  obtain ⟨h21, e22, e⟩ := jbind e
  refine ey_cv (s0 := [jI p2, jI v15, jR r11, jI 0, jR (some a17)]) (s1 := []) (st' := []) (cd_68 rfl) mt_68 mt_26 rfl rfl rfl (jck_s e20) rfl (jsml_s rfl) rfl (ok_26 e22) ?_
  refine ey_aload_n (cd_68 rfl) rfl ?_
  refine ey_aload_n (cd_68 rfl) rfl ?_
  obtain ⟨a23, e24, e⟩ := jbind e
  refine ey_rs (s0 := [jR p1, jR p0]) (s1 := [jR (some a23), jR p0]) (by rw [e24]) ?_
  obtain ⟨v25, e26, e⟩ := jbind e
  refine ey_getf_i (cd_68 rfl) mt_68 rfl rfl rfl e26 ?_
  refine ey_aload_n (cd_68 rfl) rfl ?_
  obtain ⟨a27, e28, e⟩ := jbind e
  refine ey_rs (s0 := [jR p1, jI v25, jR p0]) (s1 := [jR (some a27), jI v25, jR p0]) (by rw [e28]) ?_
  obtain ⟨v29, e30, e⟩ := jbind e
  refine ey_getf_i (cd_68 rfl) mt_68 rfl rfl rfl e30 ?_
  refine ey_iconst (cd_68 rfl) ?_
  refine ey_iload_n (cd_68 rfl) rfl ?_
  obtain ⟨a31, e32, e⟩ := jbind e
  refine ey_rs (s0 := [jI p2, jI 0, jI v29, jI v25, jR p0]) (s1 := [jI p2, jI 0, jI v29, jI v25, jR (some a31)]) (by rw [e32]) ?_
  obtain ⟨u33, e34, e⟩ := jbind e
  obtain ⟨h35, e36, e⟩ := jbind e
  refine ey_cv (s0 := [jI p2, jI 0, jI v29, jI v25, jR (some a31)]) (s1 := []) (st' := []) (cd_68 rfl) mt_68 mt_28 rfl rfl rfl (jck_s e34) rfl (jsml_s rfl) rfl (mm_Runs.up (d := 2) (by decide) (ok_28 e36)) ?_
  cases e
  exact ey_retv (cd_68 rfl) mt_68 rfl
theorem cd_70 {pc : Nat} {i : Instr × Nat} (h : mm_lk mm_c70 pc = some i) : mm_cd 70 pc = some i := h
theorem mt_70 : mm_MT 70 = (4, 8, none, 4, 0, []) := rfl
def jd_70_s9 (this : Nat) (x1 : Option Nat) (x2 : Option Nat) (x3 : Int) (x4 : Int) (x5 : Int) (x6 : Int) (h : jH) : Option ((Int × jH) ⊕ jH) :=
  (if (jw x4) ≤ (jw x6) then some (.inr h) else ((x1).bind fun a4 => ((jgr h a4 2 7).bind fun r6 => ((jgi h this 4 5).bind fun v8 => ((x2).bind fun a10 => ((jgr h a10 2 7).bind fun r12 => ((r12).bind fun a14 => ((jai h a14 x6).bind fun v16 => ((r6).bind fun a18 => ((jta h a18 0 v8 v16).bind fun h20 => ((x1).bind fun a22 => ((jgr h20 a22 2 8).bind fun r24 => ((jgi h20 this 4 5).bind fun v26 => ((x2).bind fun a28 => ((jgr h20 a28 2 8).bind fun r30 => ((r30).bind fun a32 => ((jai h20 a32 x6).bind fun v34 => ((r24).bind fun a36 => ((jta h20 a36 0 v26 ((x5 + v34) - x3)).bind fun h38 => ((x1).bind fun a40 => ((jgr h38 a40 2 14).bind fun r42 => ((x1).bind fun a44 => ((jgr h38 a44 2 8).bind fun r46 => ((jgi h38 this 4 5).bind fun v48 => ((r46).bind fun a50 => ((jai h38 a50 v48).bind fun v52 => ((r42).bind fun a54 => ((jta h38 a54 2 v52 1).bind fun h56 => ((x2).bind fun a58 => ((jgr h56 a58 2 11).bind fun r60 => ((r60).bind fun a62 => ((jai h56 a62 x6).bind fun v64 => ((jgi h56 this 4 5).bind fun v66 => ((x2).bind fun a68 => ((jgr h56 a68 2 9).bind fun r70 => ((r70).bind fun a72 => ((jai h56 a72 x6).bind fun v74 => ((x2).bind fun a76 => ((jgr h56 a76 2 5).bind fun r78 => ((x2).bind fun a80 => ((jgr h56 a80 2 10).bind fun r82 => ((r82).bind fun a84 => ((jai h56 a84 x6).bind fun v86 => ((x1).bind fun a88 => ((jck h56 a88 2).bind fun u90 => ((jd_27 a88 v66 v74 r78 (v64 + 5) v86 h56).bind fun h92 => ((jgi h92 this 4 5).bind fun v94 => ((jpi h92 this 4 5 (v94 + 1)).bind fun h96 => some (.inl ((x6 + 1), h96))))))))))))))))))))))))))))))))))))))))))))))))))
set_option maxRecDepth 100000 in
theorem jk_70_s9 {L : Nat} {xs : Nat → Int32} {this : Nat} {x1 : Option Nat} {x2 : Option Nat} {x3 : Int} {x4 : Int} {x5 : Int} {x6 : Int} {h : jH} {o : ((Int × jH) ⊕ jH)} {r : mm_R} (e : jd_70_s9 this x1 x2 x3 x4 x5 x6 h = some o) (K : jsm (fun s => (∀ lv : jL, lv 0 = some (jR (some this)) → lv 1 = some (jR x1) → lv 2 = some (jR x2) → lv 3 = some (jI x3) → lv 4 = some (jI x4) → lv 5 = some (jI x5) → lv 6 = some (jI s.1) → ey (mm_xt L xs) 3 70 9 lv [] s.2 r)) (fun x => (∀ lv : jL, ey (mm_xt L xs) 3 70 123 lv [] x r)) o) : ∀ lv : jL, lv 0 = some (jR (some this)) → lv 1 = some (jR x1) → lv 2 = some (jR x2) → lv 3 = some (jI x3) → lv 4 = some (jI x4) → lv 5 = some (jI x5) → lv 6 = some (jI x6) → ey (mm_xt L xs) 3 70 9 lv [] h r := by
  intro lv f0 f1 f2 f3 f4 f5 f6
  unfold jd_70_s9 at e
  refine ey_iload (cd_70 rfl) f6 ?_
  refine ey_iload (cd_70 rfl) f4 ?_
  by_cases q3 : (jw x4) ≤ (jw x6)
  · rw [if_pos q3] at e
    refine ey_cge (cd_70 rfl) rfl rfl rfl q3 ?_
    cases e
    exact K lv 
  · rw [if_neg q3] at e
    refine ey_nge (cd_70 rfl) rfl rfl rfl q3 ?_
    refine ey_aload_n (cd_70 rfl) f1 ?_
    obtain ⟨a4, e5, e⟩ := jbind e
    refine ey_rs (s0 := [jR x1]) (s1 := [jR (some a4)]) (by rw [e5]) ?_
    obtain ⟨r6, e7, e⟩ := jbind e
    refine ey_getf_r (cd_70 rfl) mt_70 rfl rfl rfl e7 ?_
    refine ey_aload_n (cd_70 rfl) f0 ?_
    obtain ⟨v8, e9, e⟩ := jbind e
    refine ey_getf_i (cd_70 rfl) mt_70 rfl rfl rfl e9 ?_
    refine ey_aload_n (cd_70 rfl) f2 ?_
    obtain ⟨a10, e11, e⟩ := jbind e
    refine ey_rs (s0 := [jR x2, jI v8, jR r6]) (s1 := [jR (some a10), jI v8, jR r6]) (by rw [e11]) ?_
    obtain ⟨r12, e13, e⟩ := jbind e
    refine ey_getf_r (cd_70 rfl) mt_70 rfl rfl rfl e13 ?_
    refine ey_iload (cd_70 rfl) f6 ?_
    obtain ⟨a14, e15, e⟩ := jbind e
    refine ey_rs (s0 := [jI x6, jR r12, jI v8, jR r6]) (s1 := [jI x6, jR (some a14), jI v8, jR r6]) (by rw [e15]) ?_
    obtain ⟨v16, e17, e⟩ := jbind e
    refine ey_iald (cd_70 rfl) e17 ?_
    obtain ⟨a18, e19, e⟩ := jbind e
    refine ey_rs (s0 := [jI v16, jI v8, jR r6]) (s1 := [jI v16, jI v8, jR (some a18)]) (by rw [e19]) ?_
    obtain ⟨h20, e21, e⟩ := jbind e
    refine ey_iast (cd_70 rfl) e21 ?_
    refine ey_aload_n (cd_70 rfl) f1 ?_
    obtain ⟨a22, e23, e⟩ := jbind e
    refine ey_rs (s0 := [jR x1]) (s1 := [jR (some a22)]) (by rw [e23]) ?_
    obtain ⟨r24, e25, e⟩ := jbind e
    refine ey_getf_r (cd_70 rfl) mt_70 rfl rfl rfl e25 ?_
    refine ey_aload_n (cd_70 rfl) f0 ?_
    obtain ⟨v26, e27, e⟩ := jbind e
    refine ey_getf_i (cd_70 rfl) mt_70 rfl rfl rfl e27 ?_
    refine ey_iload (cd_70 rfl) f5 ?_
    refine ey_aload_n (cd_70 rfl) f2 ?_
    obtain ⟨a28, e29, e⟩ := jbind e
    refine ey_rs (s0 := [jR x2, jI x5, jI v26, jR r24]) (s1 := [jR (some a28), jI x5, jI v26, jR r24]) (by rw [e29]) ?_
    obtain ⟨r30, e31, e⟩ := jbind e
    refine ey_getf_r (cd_70 rfl) mt_70 rfl rfl rfl e31 ?_
    refine ey_iload (cd_70 rfl) f6 ?_
    obtain ⟨a32, e33, e⟩ := jbind e
    refine ey_rs (s0 := [jI x6, jR r30, jI x5, jI v26, jR r24]) (s1 := [jI x6, jR (some a32), jI x5, jI v26, jR r24]) (by rw [e33]) ?_
    obtain ⟨v34, e35, e⟩ := jbind e
    refine ey_iald (cd_70 rfl) e35 ?_
    refine ey_iadd (cd_70 rfl) ?_
    refine ey_iload_n (cd_70 rfl) f3 ?_
    refine ey_isub (cd_70 rfl) ?_
    obtain ⟨a36, e37, e⟩ := jbind e
    refine ey_rs (s0 := [jI ((x5 + v34) - x3), jI v26, jR r24]) (s1 := [jI ((x5 + v34) - x3), jI v26, jR (some a36)]) (by rw [e37]) ?_
    obtain ⟨h38, e39, e⟩ := jbind e
    refine ey_iast (cd_70 rfl) e39 ?_
    refine ey_aload_n (cd_70 rfl) f1 ?_
    obtain ⟨a40, e41, e⟩ := jbind e
    refine ey_rs (s0 := [jR x1]) (s1 := [jR (some a40)]) (by rw [e41]) ?_
    obtain ⟨r42, e43, e⟩ := jbind e
    refine ey_getf_r (cd_70 rfl) mt_70 rfl rfl rfl e43 ?_
    refine ey_aload_n (cd_70 rfl) f1 ?_
    obtain ⟨a44, e45, e⟩ := jbind e
    refine ey_rs (s0 := [jR x1, jR r42]) (s1 := [jR (some a44), jR r42]) (by rw [e45]) ?_
    obtain ⟨r46, e47, e⟩ := jbind e
    refine ey_getf_r (cd_70 rfl) mt_70 rfl rfl rfl e47 ?_
    refine ey_aload_n (cd_70 rfl) f0 ?_
    obtain ⟨v48, e49, e⟩ := jbind e
    refine ey_getf_i (cd_70 rfl) mt_70 rfl rfl rfl e49 ?_
    obtain ⟨a50, e51, e⟩ := jbind e
    refine ey_rs (s0 := [jI v48, jR r46, jR r42]) (s1 := [jI v48, jR (some a50), jR r42]) (by rw [e51]) ?_
    obtain ⟨v52, e53, e⟩ := jbind e
    refine ey_iald (cd_70 rfl) e53 ?_
    refine ey_iconst (cd_70 rfl) ?_
    obtain ⟨a54, e55, e⟩ := jbind e
    refine ey_rs (s0 := [jI 1, jI v52, jR r42]) (s1 := [jI 1, jI v52, jR (some a54)]) (by rw [e55]) ?_
    obtain ⟨h56, e57, e⟩ := jbind e
    refine ey_zast (cd_70 rfl) e57 ?_
    refine ey_aload_n (cd_70 rfl) f2 ?_
    obtain ⟨a58, e59, e⟩ := jbind e
    refine ey_rs (s0 := [jR x2]) (s1 := [jR (some a58)]) (by rw [e59]) ?_
    obtain ⟨r60, e61, e⟩ := jbind e
    refine ey_getf_r (cd_70 rfl) mt_70 rfl rfl rfl e61 ?_
    refine ey_iload (cd_70 rfl) f6 ?_
    obtain ⟨a62, e63, e⟩ := jbind e
    refine ey_rs (s0 := [jI x6, jR r60]) (s1 := [jI x6, jR (some a62)]) (by rw [e63]) ?_
    obtain ⟨v64, e65, e⟩ := jbind e
    refine ey_iald (cd_70 rfl) e65 ?_
    refine ey_iconst (cd_70 rfl) ?_
    refine ey_iadd (cd_70 rfl) ?_
    refine ey_istore (cd_70 rfl) mt_70 rfl ?_
    refine ey_aload_n (cd_70 rfl) f1 ?_
    refine ey_aload_n (cd_70 rfl) f0 ?_
    obtain ⟨v66, e67, e⟩ := jbind e
    refine ey_getf_i (cd_70 rfl) mt_70 rfl rfl rfl e67 ?_
    refine ey_aload_n (cd_70 rfl) f2 ?_
    obtain ⟨a68, e69, e⟩ := jbind e
    refine ey_rs (s0 := [jR x2, jI v66, jR x1]) (s1 := [jR (some a68), jI v66, jR x1]) (by rw [e69]) ?_
    obtain ⟨r70, e71, e⟩ := jbind e
    refine ey_getf_r (cd_70 rfl) mt_70 rfl rfl rfl e71 ?_
    refine ey_iload (cd_70 rfl) (jup_pi (lv := lv) (j := 6) (v := jI (v64 + 5)) (z := x6) f6) ?_
    obtain ⟨a72, e73, e⟩ := jbind e
    refine ey_rs (s0 := [jI x6, jR r70, jI v66, jR x1]) (s1 := [jI x6, jR (some a72), jI v66, jR x1]) (by rw [e73]) ?_
    obtain ⟨v74, e75, e⟩ := jbind e
    refine ey_iald (cd_70 rfl) e75 ?_
    refine ey_aload_n (cd_70 rfl) f2 ?_
    obtain ⟨a76, e77, e⟩ := jbind e
    refine ey_rs (s0 := [jR x2, jI v74, jI v66, jR x1]) (s1 := [jR (some a76), jI v74, jI v66, jR x1]) (by rw [e77]) ?_
    obtain ⟨r78, e79, e⟩ := jbind e
    refine ey_getf_r (cd_70 rfl) mt_70 rfl rfl rfl e79 ?_
    refine ey_iload (cd_70 rfl) rfl ?_
    refine ey_aload_n (cd_70 rfl) f2 ?_
    obtain ⟨a80, e81, e⟩ := jbind e
    refine ey_rs (s0 := [jR x2, jI (v64 + 5), jR r78, jI v74, jI v66, jR x1]) (s1 := [jR (some a80), jI (v64 + 5), jR r78, jI v74, jI v66, jR x1]) (by rw [e81]) ?_
    obtain ⟨r82, e83, e⟩ := jbind e
    refine ey_getf_r (cd_70 rfl) mt_70 rfl rfl rfl e83 ?_
    refine ey_iload (cd_70 rfl) (jup_pi (lv := lv) (j := 6) (v := jI (v64 + 5)) (z := x6) f6) ?_
    obtain ⟨a84, e85, e⟩ := jbind e
    refine ey_rs (s0 := [jI x6, jR r82, jI (v64 + 5), jR r78, jI v74, jI v66, jR x1]) (s1 := [jI x6, jR (some a84), jI (v64 + 5), jR r78, jI v74, jI v66, jR x1]) (by rw [e85]) ?_
    obtain ⟨v86, e87, e⟩ := jbind e
    refine ey_iald (cd_70 rfl) e87 ?_
    obtain ⟨a88, e89, e⟩ := jbind e
    refine ey_rs (s0 := [jI v86, jI (v64 + 5), jR r78, jI v74, jI v66, jR x1]) (s1 := [jI v86, jI (v64 + 5), jR r78, jI v74, jI v66, jR (some a88)]) (by rw [e89]) ?_
    obtain ⟨u90, e91, e⟩ := jbind e
    obtain ⟨h92, e93, e⟩ := jbind e
    refine ey_cv (s0 := [jI v86, jI (v64 + 5), jR r78, jI v74, jI v66, jR (some a88)]) (s1 := []) (st' := []) (cd_70 rfl) mt_70 mt_27 rfl rfl rfl (jck_s e91) rfl (jsml_s rfl) rfl (ok_27 e93) ?_
    refine ey_aload_n (cd_70 rfl) f0 ?_
    refine ey_dup (cd_70 rfl) rfl ?_
    obtain ⟨v94, e95, e⟩ := jbind e
    refine ey_getf_i (cd_70 rfl) mt_70 rfl rfl rfl e95 ?_
    refine ey_iconst (cd_70 rfl) ?_
    refine ey_iadd (cd_70 rfl) ?_
    obtain ⟨h96, e97, e⟩ := jbind e
    refine ey_putf_i (cd_70 rfl) mt_70 rfl rfl rfl e97 ?_
    refine ey_iinc (cd_70 rfl) mt_70 rfl (jup_pi (lv := lv) (j := 6) (v := jI (v64 + 5)) (z := x6) f6) ?_
    refine ey_goto (cd_70 rfl) rfl ?_
    cases e
    exact K (jup (jup lv 7 (jI (v64 + 5))) 6 (jI (x6 + 1))) f0 f1 f2 f3 f4 (jup_pi (lv := (jup lv 7 (jI (v64 + 5)))) (j := 5) (v := jI (x6 + 1)) (z := x5) f5) rfl
def jd_70_l9 (this : Nat) (x1 : Option Nat) (x2 : Option Nat) (x3 : Int) (x4 : Int) (x5 : Int) (x6 : Int) (h : jH) : Option jH :=
  jlp (fun s : (Int × jH) => jd_70_s9 this x1 x2 x3 x4 x5 s.1 s.2) jfu (x6, h)
theorem jk_70_l9 {L : Nat} {xs : Nat → Int32} {this : Nat} {x1 : Option Nat} {x2 : Option Nat} {x3 : Int} {x4 : Int} {x5 : Int} {x6 : Int} {h : jH} {x : jH} {r : mm_R} (e : jd_70_l9 this x1 x2 x3 x4 x5 x6 h = some x) (K : (∀ lv : jL, ey (mm_xt L xs) 3 70 123 lv [] x r)) : ∀ lv : jL, lv 0 = some (jR (some this)) → lv 1 = some (jR x1) → lv 2 = some (jR x2) → lv 3 = some (jI x3) → lv 4 = some (jI x4) → lv 5 = some (jI x5) → lv 6 = some (jI x6) → ey (mm_xt L xs) 3 70 9 lv [] h r := by
  unfold jd_70_l9 at e
  exact jlp_ok2 (P := fun s => ∀ lv : jL, lv 0 = some (jR (some this)) → lv 1 = some (jR x1) → lv 2 = some (jR x2) → lv 3 = some (jI x3) → lv 4 = some (jI x4) → lv 5 = some (jI x5) → lv 6 = some (jI s.1) → ey (mm_xt L xs) 3 70 9 lv [] s.2 r) (Q := fun x => (∀ lv : jL, ey (mm_xt L xs) 3 70 123 lv [] x r)) (fun s q hq hk => jk_70_s9 hq hk) jfu _ x e K
def jd_70 (this : Nat) (p0 : Option Nat) (p1 : Option Nat) (p2 : Int) (p3 : Int) (h : jH) : Option jH :=
  ((jgi h this 4 5).bind fun v1 => ((jd_70_l9 this p0 p1 p2 p3 v1 p2 h).bind fun x98 => some x98))
set_option maxRecDepth 100000 in
theorem ok_70 {L : Nat} {xs : Nat → Int32} {this : Nat} {p0 : Option Nat} {p1 : Option Nat} {p2 : Int} {p3 : Int} {h : jH} {o : jH} (e : jd_70 this p0 p1 p2 p3 h = some o) : mm_Runs (mm_xt L xs) 4 70 ([jR (some this), jR p0, jR p1, jI p2, jI p3].map jcv) (jaH h) (.inl (none, jaH o)) := by
  refine ey_run0 _ mt_70 (jsl_s rfl) ?_
  unfold jd_70 at e
  refine ey_aload_n (cd_70 rfl) rfl ?_
  obtain ⟨v1, e2, e⟩ := jbind e
  refine ey_getf_i (cd_70 rfl) mt_70 rfl rfl rfl e2 ?_
  refine ey_istore (cd_70 rfl) mt_70 rfl ?_
  refine ey_iload_n (cd_70 rfl) rfl ?_
  refine ey_istore (cd_70 rfl) mt_70 rfl ?_
  obtain ⟨x98, e99, e⟩ := jbind e
  refine jk_70_l9 e99 ?_ (jup (jup (jlf (jla 0 [jR (some this), jR p0, jR p1, jI p2, jI p3])) 5 (jI v1)) 6 (jI p2)) rfl rfl rfl rfl (jup_o rfl (jup_pi (lv := (jlf (jla 0 [jR (some this), jR p0, jR p1, jI p2, jI p3]))) (j := 4) (v := jI v1) (z := p3) rfl)) (jup_pi (lv := (jup (jlf (jla 0 [jR (some this), jR p0, jR p1, jI p2, jI p3])) 5 (jI v1))) (j := 5) (v := jI p2) (z := v1) rfl) rfl
  intro lv 
  cases e
  exact ey_retv (cd_70 rfl) mt_70 rfl
theorem cd_71 {pc : Nat} {i : Instr × Nat} (h : mm_lk mm_c71 pc = some i) : mm_cd 71 pc = some i := h
theorem mt_71 : mm_MT 71 = (4, 10, some .boolean, 5, 0, []) := rfl
def jd_71_s29 (this : Nat) (x1 : Option Nat) (x2 : Option Nat) (x3 : Int) (x4 : Int) (x5 : Int) (x6 : Int) (x7 : Int) (h : jH) : Option ((Int × jH) ⊕ (jH ⊕ jH)) :=
  (if (jw x4) < (jw x7) then some (.inr (.inr h)) else ((x2).bind fun a12 => ((jgr h a12 2 15).bind fun r14 => ((x2).bind fun a16 => ((jgr h a16 2 12).bind fun r18 => ((x1).bind fun a20 => ((jgr h a20 2 8).bind fun r22 => ((jgi h this 4 5).bind fun v24 => ((r22).bind fun a26 => ((jai h a26 v24).bind fun v28 => ((r18).bind fun a30 => ((jai h a30 ((x3 + v28) - x6)).bind fun v32 => ((r14).bind fun a34 => ((jar h a34 6 v32).bind fun r36 => ((jgr h this 4 1).bind fun r38 => ((jgr h this 4 0).bind fun r40 => ((jgi h this 4 5).bind fun v42 => ((jgr h this 4 6).bind fun r44 => ((r44).bind fun a46 => ((jai h a46 3).bind fun v48 => ((r38).bind fun a50 => ((jck h a50 1).bind fun u52 => ((jd_16 a50 r40 x1 v42 r36 x5 v48 h).bind fun q54 => (if (jw q54.1) ≤ 2000 then ((jgi q54.2 this 4 5).bind fun v57 => ((jgr q54.2 this 4 0).bind fun r59 => ((r59).bind fun a61 => ((jgr q54.2 a61 0 0).bind fun r63 => ((x1).bind fun a65 => ((jck q54.2 a65 2).bind fun u67 => ((jd_27 a65 v57 x5 r63 0 q54.1 q54.2).bind fun h69 => ((jgi h69 this 4 5).bind fun v71 => ((jpi h69 this 4 5 (v71 + 1)).bind fun h73 => some (.inl ((x7 + 1), h73))))))))))) else some (.inr (.inl q54.2))))))))))))))))))))))))))
set_option maxRecDepth 100000 in
theorem jk_71_s29 {L : Nat} {xs : Nat → Int32} {this : Nat} {x1 : Option Nat} {x2 : Option Nat} {x3 : Int} {x4 : Int} {x5 : Int} {x6 : Int} {x7 : Int} {h : jH} {o : ((Int × jH) ⊕ (jH ⊕ jH))} {r : mm_R} (e : jd_71_s29 this x1 x2 x3 x4 x5 x6 x7 h = some o) (K : jsm (fun s => (∀ lv : jL, lv 0 = some (jR (some this)) → lv 1 = some (jR x1) → lv 2 = some (jR x2) → lv 3 = some (jI x3) → lv 4 = some (jI x4) → lv 5 = some (jI x5) → lv 6 = some (jI x6) → lv 7 = some (jI s.1) → ey (mm_xt L xs) 5 71 29 lv [] s.2 r)) (fun x => (jsm (fun y => (∀ lv : jL, ey (mm_xt L xs) 5 71 98 lv [] y r)) (fun z => (∀ lv : jL, ey (mm_xt L xs) 5 71 136 lv [] z r)) x)) o) : ∀ lv : jL, lv 0 = some (jR (some this)) → lv 1 = some (jR x1) → lv 2 = some (jR x2) → lv 3 = some (jI x3) → lv 4 = some (jI x4) → lv 5 = some (jI x5) → lv 6 = some (jI x6) → lv 7 = some (jI x7) → ey (mm_xt L xs) 5 71 29 lv [] h r := by
  intro lv f0 f1 f2 f3 f4 f5 f6 f7
  unfold jd_71_s29 at e
  refine ey_iload (cd_71 rfl) f7 ?_
  refine ey_iload (cd_71 rfl) f4 ?_
  by_cases q11 : (jw x4) < (jw x7)
  · rw [if_pos q11] at e
    refine ey_cgt (cd_71 rfl) rfl rfl rfl q11 ?_
    cases e
    exact K lv 
  · rw [if_neg q11] at e
    refine ey_ngt (cd_71 rfl) rfl rfl rfl q11 ?_
    refine ey_aload_n (cd_71 rfl) f2 ?_
    obtain ⟨a12, e13, e⟩ := jbind e
    refine ey_rs (s0 := [jR x2]) (s1 := [jR (some a12)]) (by rw [e13]) ?_
    obtain ⟨r14, e15, e⟩ := jbind e
    refine ey_getf_r (cd_71 rfl) mt_71 rfl rfl rfl e15 ?_
    refine ey_aload_n (cd_71 rfl) f2 ?_
    obtain ⟨a16, e17, e⟩ := jbind e
    refine ey_rs (s0 := [jR x2, jR r14]) (s1 := [jR (some a16), jR r14]) (by rw [e17]) ?_
    obtain ⟨r18, e19, e⟩ := jbind e
    refine ey_getf_r (cd_71 rfl) mt_71 rfl rfl rfl e19 ?_
    refine ey_iload_n (cd_71 rfl) f3 ?_
    refine ey_aload_n (cd_71 rfl) f1 ?_
    obtain ⟨a20, e21, e⟩ := jbind e
    refine ey_rs (s0 := [jR x1, jI x3, jR r18, jR r14]) (s1 := [jR (some a20), jI x3, jR r18, jR r14]) (by rw [e21]) ?_
    obtain ⟨r22, e23, e⟩ := jbind e
    refine ey_getf_r (cd_71 rfl) mt_71 rfl rfl rfl e23 ?_
    refine ey_aload_n (cd_71 rfl) f0 ?_
    obtain ⟨v24, e25, e⟩ := jbind e
    refine ey_getf_i (cd_71 rfl) mt_71 rfl rfl rfl e25 ?_
    obtain ⟨a26, e27, e⟩ := jbind e
    refine ey_rs (s0 := [jI v24, jR r22, jI x3, jR r18, jR r14]) (s1 := [jI v24, jR (some a26), jI x3, jR r18, jR r14]) (by rw [e27]) ?_
    obtain ⟨v28, e29, e⟩ := jbind e
    refine ey_iald (cd_71 rfl) e29 ?_
    refine ey_iadd (cd_71 rfl) ?_
    refine ey_iload (cd_71 rfl) f6 ?_
    refine ey_isub (cd_71 rfl) ?_
    obtain ⟨a30, e31, e⟩ := jbind e
    refine ey_rs (s0 := [jI ((x3 + v28) - x6), jR r18, jR r14]) (s1 := [jI ((x3 + v28) - x6), jR (some a30), jR r14]) (by rw [e31]) ?_
    obtain ⟨v32, e33, e⟩ := jbind e
    refine ey_iald (cd_71 rfl) e33 ?_
    obtain ⟨a34, e35, e⟩ := jbind e
    refine ey_rs (s0 := [jI v32, jR r14]) (s1 := [jI v32, jR (some a34)]) (by rw [e35]) ?_
    obtain ⟨r36, e37, e⟩ := jbind e
    refine ey_aald (cd_71 rfl) (by decide) e37 ?_
    refine ey_astore (cd_71 rfl) mt_71 rfl ?_
    refine ey_aload_n (cd_71 rfl) f0 ?_
    obtain ⟨r38, e39, e⟩ := jbind e
    refine ey_getf_r (cd_71 rfl) mt_71 rfl rfl rfl e39 ?_
    refine ey_aload_n (cd_71 rfl) f0 ?_
    obtain ⟨r40, e41, e⟩ := jbind e
    refine ey_getf_r (cd_71 rfl) mt_71 rfl rfl rfl e41 ?_
    refine ey_aload_n (cd_71 rfl) f1 ?_
    refine ey_aload_n (cd_71 rfl) f0 ?_
    obtain ⟨v42, e43, e⟩ := jbind e
    refine ey_getf_i (cd_71 rfl) mt_71 rfl rfl rfl e43 ?_
    refine ey_aload (cd_71 rfl) rfl ?_
    refine ey_iload (cd_71 rfl) f5 ?_
    refine ey_aload_n (cd_71 rfl) f0 ?_
    obtain ⟨r44, e45, e⟩ := jbind e
    refine ey_getf_r (cd_71 rfl) mt_71 rfl rfl rfl e45 ?_
    refine ey_iconst (cd_71 rfl) ?_
    obtain ⟨a46, e47, e⟩ := jbind e
    refine ey_rs (s0 := [jI 3, jR r44, jI x5, jR r36, jI v42, jR x1, jR r40, jR r38]) (s1 := [jI 3, jR (some a46), jI x5, jR r36, jI v42, jR x1, jR r40, jR r38]) (by rw [e47]) ?_
    obtain ⟨v48, e49, e⟩ := jbind e
    refine ey_iald (cd_71 rfl) e49 ?_
    obtain ⟨a50, e51, e⟩ := jbind e
    refine ey_rs (s0 := [jI v48, jI x5, jR r36, jI v42, jR x1, jR r40, jR r38]) (s1 := [jI v48, jI x5, jR r36, jI v42, jR x1, jR r40, jR (some a50)]) (by rw [e51]) ?_
    obtain ⟨u52, e53, e⟩ := jbind e
    obtain ⟨q54, e55, e⟩ := jbind e
    refine ey_cv (s0 := [jI v48, jI x5, jR r36, jI v42, jR x1, jR r40, jR (some a50)]) (s1 := []) (st' := [jI q54.1]) (cd_71 rfl) mt_71 mt_16 rfl rfl rfl (jck_s e53) rfl (jsml_s rfl) rfl (ok_16 e55) ?_
    refine ey_istore (cd_71 rfl) mt_71 rfl ?_
    refine ey_iload (cd_71 rfl) rfl ?_
    refine ey_sipush (cd_71 rfl) (by decide) ?_
    by_cases q56 : (jw q54.1) ≤ 2000
    · rw [if_pos q56] at e
      refine ey_cle (cd_71 rfl) rfl rfl (show jw 2000 = 2000 from by decide) q56 ?_
      refine ey_aload_n (cd_71 rfl) f1 ?_
      refine ey_aload_n (cd_71 rfl) f0 ?_
      obtain ⟨v57, e58, e⟩ := jbind e
      refine ey_getf_i (cd_71 rfl) mt_71 rfl rfl rfl e58 ?_
      refine ey_iload (cd_71 rfl) f5 ?_
      refine ey_aload_n (cd_71 rfl) f0 ?_
      obtain ⟨r59, e60, e⟩ := jbind e
      refine ey_getf_r (cd_71 rfl) mt_71 rfl rfl rfl e60 ?_
      obtain ⟨a61, e62, e⟩ := jbind e
      refine ey_rs (s0 := [jR r59, jI x5, jI v57, jR x1]) (s1 := [jR (some a61), jI x5, jI v57, jR x1]) (by rw [e62]) ?_
      obtain ⟨r63, e64, e⟩ := jbind e
      refine ey_getf_r (cd_71 rfl) mt_71 rfl rfl rfl e64 ?_
      refine ey_iconst (cd_71 rfl) ?_
      refine ey_iload (cd_71 rfl) rfl ?_
      obtain ⟨a65, e66, e⟩ := jbind e
      refine ey_rs (s0 := [jI q54.1, jI 0, jR r63, jI x5, jI v57, jR x1]) (s1 := [jI q54.1, jI 0, jR r63, jI x5, jI v57, jR (some a65)]) (by rw [e66]) ?_
      obtain ⟨u67, e68, e⟩ := jbind e
      obtain ⟨h69, e70, e⟩ := jbind e
      refine ey_cv (s0 := [jI q54.1, jI 0, jR r63, jI x5, jI v57, jR (some a65)]) (s1 := []) (st' := []) (cd_71 rfl) mt_71 mt_27 rfl rfl rfl (jck_s e68) rfl (jsml_s rfl) rfl (mm_Runs.up (d := 3) (by decide) (ok_27 e70)) ?_
      refine ey_aload_n (cd_71 rfl) f0 ?_
      refine ey_dup (cd_71 rfl) rfl ?_
      obtain ⟨v71, e72, e⟩ := jbind e
      refine ey_getf_i (cd_71 rfl) mt_71 rfl rfl rfl e72 ?_
      refine ey_iconst (cd_71 rfl) ?_
      refine ey_iadd (cd_71 rfl) ?_
      obtain ⟨h73, e74, e⟩ := jbind e
      refine ey_putf_i (cd_71 rfl) mt_71 rfl rfl rfl e74 ?_
      refine ey_iinc (cd_71 rfl) mt_71 rfl (jup_o rfl (jup_pi (lv := lv) (j := 7) (v := jR r36) (z := x7) f7)) ?_
      refine ey_goto (cd_71 rfl) rfl ?_
      cases e
      exact K (jup (jup (jup lv 8 (jR r36)) 9 (jI q54.1)) 7 (jI (x7 + 1))) f0 f1 f2 f3 f4 f5 (jup_pi (lv := (jup (jup lv 8 (jR r36)) 9 (jI q54.1))) (j := 6) (v := jI (x7 + 1)) (z := x6) f6) rfl
    · rw [if_neg q56] at e
      refine ey_nle (cd_71 rfl) rfl rfl (show jw 2000 = 2000 from by decide) q56 ?_
      cases e
      exact K (jup (jup lv 8 (jR r36)) 9 (jI q54.1)) 
def jd_71_l29 (this : Nat) (x1 : Option Nat) (x2 : Option Nat) (x3 : Int) (x4 : Int) (x5 : Int) (x6 : Int) (x7 : Int) (h : jH) : Option (jH ⊕ jH) :=
  jlp (fun s : (Int × jH) => jd_71_s29 this x1 x2 x3 x4 x5 x6 s.1 s.2) jfu (x7, h)
theorem jk_71_l29 {L : Nat} {xs : Nat → Int32} {this : Nat} {x1 : Option Nat} {x2 : Option Nat} {x3 : Int} {x4 : Int} {x5 : Int} {x6 : Int} {x7 : Int} {h : jH} {x : (jH ⊕ jH)} {r : mm_R} (e : jd_71_l29 this x1 x2 x3 x4 x5 x6 x7 h = some x) (K : (jsm (fun y => (∀ lv : jL, ey (mm_xt L xs) 5 71 98 lv [] y r)) (fun z => (∀ lv : jL, ey (mm_xt L xs) 5 71 136 lv [] z r)) x)) : ∀ lv : jL, lv 0 = some (jR (some this)) → lv 1 = some (jR x1) → lv 2 = some (jR x2) → lv 3 = some (jI x3) → lv 4 = some (jI x4) → lv 5 = some (jI x5) → lv 6 = some (jI x6) → lv 7 = some (jI x7) → ey (mm_xt L xs) 5 71 29 lv [] h r := by
  unfold jd_71_l29 at e
  exact jlp_ok2 (P := fun s => ∀ lv : jL, lv 0 = some (jR (some this)) → lv 1 = some (jR x1) → lv 2 = some (jR x2) → lv 3 = some (jI x3) → lv 4 = some (jI x4) → lv 5 = some (jI x5) → lv 6 = some (jI x6) → lv 7 = some (jI s.1) → ey (mm_xt L xs) 5 71 29 lv [] s.2 r) (Q := fun x => (jsm (fun y => (∀ lv : jL, ey (mm_xt L xs) 5 71 98 lv [] y r)) (fun z => (∀ lv : jL, ey (mm_xt L xs) 5 71 136 lv [] z r)) x)) (fun s q hq hk => jk_71_s29 hq hk) jfu _ x e K
def jd_71 (this : Nat) (p0 : Option Nat) (p1 : Option Nat) (p2 : Int) (p3 : Int) (p4 : Int) (h : jH) : Option (Int × jH) :=
  ((jgi h this 4 5).bind fun v1 => ((jgr h this 4 6).bind fun r3 => ((r3).bind fun a5 => ((jai h a5 2).bind fun v7 => ((jd_64 p0 v1 v1 ((p3 - p2) + 1) v7 h).bind fun h9 => ((jd_71_l29 this p0 p1 p2 p3 p4 v1 p2 h9).bind fun x75 => jse x75 (fun y77 => some (0, y77)) (fun y78 => some (1, y78))))))))
set_option maxRecDepth 100000 in
theorem ok_71 {L : Nat} {xs : Nat → Int32} {this : Nat} {p0 : Option Nat} {p1 : Option Nat} {p2 : Int} {p3 : Int} {p4 : Int} {h : jH} {o : (Int × jH)} (e : jd_71 this p0 p1 p2 p3 p4 h = some o) : mm_Runs (mm_xt L xs) 6 71 ([jR (some this), jR p0, jR p1, jI p2, jI p3, jI p4].map jcv) (jaH h) (.inl (some (jcv (jI o.1)), jaH o.2)) := by
  refine ey_run0 _ mt_71 (jsl_s rfl) ?_
  unfold jd_71 at e
  refine ey_aload_n (cd_71 rfl) rfl ?_
  obtain ⟨v1, e2, e⟩ := jbind e
  refine ey_getf_i (cd_71 rfl) mt_71 rfl rfl rfl e2 ?_
  refine ey_istore (cd_71 rfl) mt_71 rfl ?_
  refine ey_aload_n (cd_71 rfl) rfl ?_
  refine ey_iload (cd_71 rfl) rfl ?_
  refine ey_iload (cd_71 rfl) rfl ?_
  refine ey_iload (cd_71 rfl) rfl ?_
  refine ey_iload_n (cd_71 rfl) rfl ?_
  refine ey_isub (cd_71 rfl) ?_
  refine ey_iconst (cd_71 rfl) ?_
  refine ey_iadd (cd_71 rfl) ?_
  refine ey_aload_n (cd_71 rfl) rfl ?_
  obtain ⟨r3, e4, e⟩ := jbind e
  refine ey_getf_r (cd_71 rfl) mt_71 rfl rfl rfl e4 ?_
  refine ey_iconst (cd_71 rfl) ?_
  obtain ⟨a5, e6, e⟩ := jbind e
  refine ey_rs (s0 := [jI 2, jR r3, jI ((p3 - p2) + 1), jI v1, jI v1, jR p0]) (s1 := [jI 2, jR (some a5), jI ((p3 - p2) + 1), jI v1, jI v1, jR p0]) (by rw [e6]) ?_
  obtain ⟨v7, e8, e⟩ := jbind e
  refine ey_iald (cd_71 rfl) e8 ?_
  obtain ⟨h9, e10, e⟩ := jbind e
  refine ey_cs (s0 := [jI v7, jI ((p3 - p2) + 1), jI v1, jI v1, jR p0]) (s1 := []) (st' := []) (cd_71 rfl) mt_71 mt_64 rfl (by decide) rfl rfl (jsml_s rfl) rfl (mm_Runs.up (d := 1) (by decide) (ok_64 e10)) ?_
  refine ey_iload_n (cd_71 rfl) rfl ?_
  refine ey_istore (cd_71 rfl) mt_71 rfl ?_
  obtain ⟨x75, e76, e⟩ := jbind e
  refine jk_71_l29 e76 ?_ (jup (jup (jlf (jla 0 [jR (some this), jR p0, jR p1, jI p2, jI p3, jI p4])) 6 (jI v1)) 7 (jI p2)) rfl rfl rfl rfl rfl (jup_o rfl (jup_pi (lv := (jlf (jla 0 [jR (some this), jR p0, jR p1, jI p2, jI p3, jI p4]))) (j := 5) (v := jI v1) (z := p4) rfl)) (jup_pi (lv := (jup (jlf (jla 0 [jR (some this), jR p0, jR p1, jI p2, jI p3, jI p4])) 6 (jI v1))) (j := 6) (v := jI p2) (z := v1) rfl) rfl
  cases x75 with
  | inl y77 =>
    replace e : (some (0, y77) : Option (Int × jH)) = some o := e
    intro lv 
    refine ey_iconst (cd_71 rfl) ?_
    cases e
    exact ey_retz (cd_71 rfl) mt_71 rfl (Or.inl rfl)
  | inr y78 =>
    replace e : (some (1, y78) : Option (Int × jH)) = some o := e
    intro lv 
    refine ey_iconst (cd_71 rfl) ?_
    cases e
    exact ey_retz (cd_71 rfl) mt_71 rfl (Or.inr rfl)
theorem cd_69 {pc : Nat} {i : Instr × Nat} (h : mm_lk mm_c69 pc = some i) : mm_cd 69 pc = some i := h
theorem mt_69 : mm_MT 69 = (4, 9, some .boolean, 4, 0, []) := rfl
def jd_69_b110 (this : Nat) (x1 : Option Nat) (x2 : Option Nat) (x3 : Int) (x4 : Int) (x5 : Int) (h : jH) : Option ((Int × jH) ⊕ (jH ⊕ jH)) :=
  some (.inl ((x5 + 1), h))
set_option maxRecDepth 100000 in
theorem jk_69_b110 {L : Nat} {xs : Nat → Int32} {this : Nat} {x1 : Option Nat} {x2 : Option Nat} {x3 : Int} {x4 : Int} {x5 : Int} {h : jH} {o : ((Int × jH) ⊕ (jH ⊕ jH))} {r : mm_R} (e : jd_69_b110 this x1 x2 x3 x4 x5 h = some o) (K : jsm (fun s => (∀ lv : jL, lv 0 = some (jR (some this)) → lv 1 = some (jR x1) → lv 2 = some (jR x2) → lv 3 = some (jI x3) → lv 4 = some (jI x4) → lv 5 = some (jI s.1) → ey (mm_xt L xs) 6 69 3 lv [] s.2 r)) (fun x => (jsm (fun y => (∀ lv : jL, ey (mm_xt L xs) 6 69 108 lv [] y r)) (fun z => (∀ lv : jL, ey (mm_xt L xs) 6 69 116 lv [] z r)) x)) o) : ∀ lv : jL, lv 0 = some (jR (some this)) → lv 1 = some (jR x1) → lv 2 = some (jR x2) → lv 3 = some (jI x3) → lv 4 = some (jI x4) → lv 5 = some (jI x5) → ey (mm_xt L xs) 6 69 110 lv [] h r := by
  intro lv f0 f1 f2 f3 f4 f5
  unfold jd_69_b110 at e
  refine ey_iinc (cd_69 rfl) mt_69 rfl f5 ?_
  refine ey_goto (cd_69 rfl) rfl ?_
  cases e
  exact K (jup lv 5 (jI (x5 + 1))) f0 f1 f2 f3 (jup_pi (lv := lv) (j := 4) (v := jI (x5 + 1)) (z := x4) f4) rfl
def jd_69_b81 (this : Nat) (x1 : Option Nat) (x2 : Option Nat) (x3 : Int) (x4 : Int) (x5 : Int) (x7 : Int) (x8 : Int) (h : jH) : Option ((Int × jH) ⊕ (jH ⊕ jH)) :=
  (if (jw x8) < (jw x7) then jd_69_b110 this x1 x2 x3 x4 x5 h else ((x2).bind fun a32 => ((jgr h a32 2 9).bind fun r34 => ((r34).bind fun a36 => ((jai h a36 x5).bind fun v38 => ((jck h this 4).bind fun u40 => ((jd_71 this x1 x2 x7 x8 v38 h).bind fun q42 => (if (jw q42.1) = 0 then some (.inr (.inl q42.2)) else jd_69_b110 this x1 x2 x3 x4 x5 q42.2))))))))
set_option maxRecDepth 100000 in
theorem jk_69_b81 {L : Nat} {xs : Nat → Int32} {this : Nat} {x1 : Option Nat} {x2 : Option Nat} {x3 : Int} {x4 : Int} {x5 : Int} {x7 : Int} {x8 : Int} {h : jH} {o : ((Int × jH) ⊕ (jH ⊕ jH))} {r : mm_R} (e : jd_69_b81 this x1 x2 x3 x4 x5 x7 x8 h = some o) (K : jsm (fun s => (∀ lv : jL, lv 0 = some (jR (some this)) → lv 1 = some (jR x1) → lv 2 = some (jR x2) → lv 3 = some (jI x3) → lv 4 = some (jI x4) → lv 5 = some (jI s.1) → ey (mm_xt L xs) 6 69 3 lv [] s.2 r)) (fun x => (jsm (fun y => (∀ lv : jL, ey (mm_xt L xs) 6 69 108 lv [] y r)) (fun z => (∀ lv : jL, ey (mm_xt L xs) 6 69 116 lv [] z r)) x)) o) : ∀ lv : jL, lv 0 = some (jR (some this)) → lv 1 = some (jR x1) → lv 2 = some (jR x2) → lv 3 = some (jI x3) → lv 4 = some (jI x4) → lv 5 = some (jI x5) → lv 7 = some (jI x7) → lv 8 = some (jI x8) → ey (mm_xt L xs) 6 69 81 lv [] h r := by
  intro lv f0 f1 f2 f3 f4 f5 f7 f8
  unfold jd_69_b81 at e
  refine ey_iload (cd_69 rfl) f7 ?_
  refine ey_iload (cd_69 rfl) f8 ?_
  by_cases q31 : (jw x8) < (jw x7)
  · rw [if_pos q31] at e
    refine ey_cgt (cd_69 rfl) rfl rfl rfl q31 ?_
    exact jk_69_b110 e K lv f0 f1 f2 f3 f4 f5
  · rw [if_neg q31] at e
    refine ey_ngt (cd_69 rfl) rfl rfl rfl q31 ?_
    refine ey_aload_n (cd_69 rfl) f0 ?_
    refine ey_aload_n (cd_69 rfl) f1 ?_
    refine ey_aload_n (cd_69 rfl) f2 ?_
    refine ey_iload (cd_69 rfl) f7 ?_
    refine ey_iload (cd_69 rfl) f8 ?_
    refine ey_aload_n (cd_69 rfl) f2 ?_
    obtain ⟨a32, e33, e⟩ := jbind e
    refine ey_rs (s0 := [jR x2, jI x8, jI x7, jR x2, jR x1, jR (some this)]) (s1 := [jR (some a32), jI x8, jI x7, jR x2, jR x1, jR (some this)]) (by rw [e33]) ?_
    obtain ⟨r34, e35, e⟩ := jbind e
    refine ey_getf_r (cd_69 rfl) mt_69 rfl rfl rfl e35 ?_
    refine ey_iload (cd_69 rfl) f5 ?_
    obtain ⟨a36, e37, e⟩ := jbind e
    refine ey_rs (s0 := [jI x5, jR r34, jI x8, jI x7, jR x2, jR x1, jR (some this)]) (s1 := [jI x5, jR (some a36), jI x8, jI x7, jR x2, jR x1, jR (some this)]) (by rw [e37]) ?_
    obtain ⟨v38, e39, e⟩ := jbind e
    refine ey_iald (cd_69 rfl) e39 ?_
    obtain ⟨u40, e41, e⟩ := jbind e
    obtain ⟨q42, e43, e⟩ := jbind e
    refine ey_cv (s0 := [jI v38, jI x8, jI x7, jR x2, jR x1, jR (some this)]) (s1 := []) (st' := [jI q42.1]) (cd_69 rfl) mt_69 mt_71 rfl rfl rfl (jck_s e41) rfl (jsml_s rfl) rfl (ok_71 e43) ?_
    by_cases q44 : (jw q42.1) = 0
    · rw [if_pos q44] at e
      refine ey_yne (cd_69 rfl) rfl rfl (fun w => w q44) ?_
      cases e
      exact K lv 
    · rw [if_neg q44] at e
      refine ey_zne (cd_69 rfl) rfl rfl q44 ?_
      exact jk_69_b110 e K lv f0 f1 f2 f3 f4 f5
def jd_69_s3 (this : Nat) (x1 : Option Nat) (x2 : Option Nat) (x3 : Int) (x4 : Int) (x5 : Int) (h : jH) : Option ((Int × jH) ⊕ (jH ⊕ jH)) :=
  ((x2).bind fun a1 => ((jgi h a1 2 4).bind fun v3 => (if (jw v3) ≤ (jw x5) then some (.inr (.inr h)) else ((x2).bind fun a6 => ((jgr h a6 2 13).bind fun r8 => ((r8).bind fun a10 => ((jaz h a10 x5).bind fun v12 => (if (jw v12) = 0 then jd_69_b110 this x1 x2 x3 x4 x5 h else ((x2).bind fun a15 => ((jck h a15 2).bind fun u17 => ((jd_38 a15 x5 h).bind fun v19 => ((some (if jw x3 < jw x5 then x5 else x3)).bind fun z21 => ((some (if jw (v19 - 1) < jw x4 then (v19 - 1) else x4)).bind fun z23 => (if (jw z21) = (jw x5) then (if (jw z23) = (jw (v19 - 1)) then ((jck h this 4).bind fun u27 => ((jd_70 this x1 x2 x5 v19 h).bind fun h29 => jd_69_b110 this x1 x2 x3 x4 x5 h29)) else jd_69_b81 this x1 x2 x3 x4 x5 z21 z23 h) else jd_69_b81 this x1 x2 x3 x4 x5 z21 z23 h))))))))))))))
set_option maxRecDepth 100000 in
theorem jk_69_s3 {L : Nat} {xs : Nat → Int32} {this : Nat} {x1 : Option Nat} {x2 : Option Nat} {x3 : Int} {x4 : Int} {x5 : Int} {h : jH} {o : ((Int × jH) ⊕ (jH ⊕ jH))} {r : mm_R} (e : jd_69_s3 this x1 x2 x3 x4 x5 h = some o) (K : jsm (fun s => (∀ lv : jL, lv 0 = some (jR (some this)) → lv 1 = some (jR x1) → lv 2 = some (jR x2) → lv 3 = some (jI x3) → lv 4 = some (jI x4) → lv 5 = some (jI s.1) → ey (mm_xt L xs) 6 69 3 lv [] s.2 r)) (fun x => (jsm (fun y => (∀ lv : jL, ey (mm_xt L xs) 6 69 108 lv [] y r)) (fun z => (∀ lv : jL, ey (mm_xt L xs) 6 69 116 lv [] z r)) x)) o) : ∀ lv : jL, lv 0 = some (jR (some this)) → lv 1 = some (jR x1) → lv 2 = some (jR x2) → lv 3 = some (jI x3) → lv 4 = some (jI x4) → lv 5 = some (jI x5) → ey (mm_xt L xs) 6 69 3 lv [] h r := by
  intro lv f0 f1 f2 f3 f4 f5
  unfold jd_69_s3 at e
  refine ey_iload (cd_69 rfl) f5 ?_
  refine ey_aload_n (cd_69 rfl) f2 ?_
  obtain ⟨a1, e2, e⟩ := jbind e
  refine ey_rs (s0 := [jR x2, jI x5]) (s1 := [jR (some a1), jI x5]) (by rw [e2]) ?_
  obtain ⟨v3, e4, e⟩ := jbind e
  refine ey_getf_i (cd_69 rfl) mt_69 rfl rfl rfl e4 ?_
  by_cases q5 : (jw v3) ≤ (jw x5)
  · rw [if_pos q5] at e
    refine ey_cge (cd_69 rfl) rfl rfl rfl q5 ?_
    cases e
    exact K lv 
  · rw [if_neg q5] at e
    refine ey_nge (cd_69 rfl) rfl rfl rfl q5 ?_
    refine ey_aload_n (cd_69 rfl) f2 ?_
    obtain ⟨a6, e7, e⟩ := jbind e
    refine ey_rs (s0 := [jR x2]) (s1 := [jR (some a6)]) (by rw [e7]) ?_
    obtain ⟨r8, e9, e⟩ := jbind e
    refine ey_getf_r (cd_69 rfl) mt_69 rfl rfl rfl e9 ?_
    refine ey_iload (cd_69 rfl) f5 ?_
    obtain ⟨a10, e11, e⟩ := jbind e
    refine ey_rs (s0 := [jI x5, jR r8]) (s1 := [jI x5, jR (some a10)]) (by rw [e11]) ?_
    obtain ⟨v12, e13, e⟩ := jbind e
    refine ey_zald (cd_69 rfl) e13 ?_
    by_cases q14 : (jw v12) = 0
    · rw [if_pos q14] at e
      refine ey_yne (cd_69 rfl) rfl rfl (fun w => w q14) ?_
      refine ey_goto (cd_69 rfl) rfl ?_
      exact jk_69_b110 e K lv f0 f1 f2 f3 f4 f5
    · rw [if_neg q14] at e
      refine ey_zne (cd_69 rfl) rfl rfl q14 ?_
      refine ey_aload_n (cd_69 rfl) f2 ?_
      refine ey_iload (cd_69 rfl) f5 ?_
      obtain ⟨a15, e16, e⟩ := jbind e
      refine ey_rs (s0 := [jI x5, jR x2]) (s1 := [jI x5, jR (some a15)]) (by rw [e16]) ?_
      obtain ⟨u17, e18, e⟩ := jbind e
      obtain ⟨v19, e20, e⟩ := jbind e
      refine ey_cv (s0 := [jI x5, jR (some a15)]) (s1 := []) (st' := [jI v19]) (cd_69 rfl) mt_69 mt_38 rfl rfl rfl (jck_s e18) rfl (jsml_s rfl) rfl (mm_Runs.up (d := 1) (by decide) (ok_38 e20)) ?_
      refine ey_istore (cd_69 rfl) mt_69 rfl ?_
      refine ey_iload_n (cd_69 rfl) f3 ?_
      refine ey_iload (cd_69 rfl) (jup_pi (lv := lv) (j := 5) (v := jI v19) (z := x5) f5) ?_
      refine ey_max (cd_69 rfl) mt_69 rfl (jsml_s rfl) ?_
      obtain ⟨z21, e22, e⟩ := jbind e
      refine ey_rs (s0 := [jI (if jw x3 < jw x5 then x5 else x3)]) (s1 := [jI z21]) (by rw [show (if jw x3 < jw x5 then x5 else x3) = z21 from Option.some.inj e22]) ?_
      refine ey_istore (cd_69 rfl) mt_69 rfl ?_
      refine ey_iload (cd_69 rfl) f4 ?_
      refine ey_iload (cd_69 rfl) (jup_pi (lv := (jup lv 6 (jI v19))) (j := 6) (v := jI z21) (z := v19) rfl) ?_
      refine ey_iconst (cd_69 rfl) ?_
      refine ey_isub (cd_69 rfl) ?_
      refine ey_min (cd_69 rfl) mt_69 rfl (jsml_s rfl) ?_
      obtain ⟨z23, e24, e⟩ := jbind e
      refine ey_rs (s0 := [jI (if jw (v19 - 1) < jw x4 then (v19 - 1) else x4)]) (s1 := [jI z23]) (by rw [show (if jw (v19 - 1) < jw x4 then (v19 - 1) else x4) = z23 from Option.some.inj e24]) ?_
      refine ey_istore (cd_69 rfl) mt_69 rfl ?_
      refine ey_iload (cd_69 rfl) (jup_pi (lv := (jup (jup lv 6 (jI v19)) 7 (jI z21))) (j := 7) (v := jI z23) (z := z21) rfl) ?_
      refine ey_iload (cd_69 rfl) (jup_o rfl (jup_o rfl (jup_pi (lv := lv) (j := 5) (v := jI v19) (z := x5) f5))) ?_
      by_cases q25 : (jw z21) = (jw x5)
      · rw [if_pos q25] at e
        refine ey_nne (cd_69 rfl) rfl rfl rfl (fun w => w q25) ?_
        refine ey_iload (cd_69 rfl) rfl ?_
        refine ey_iload (cd_69 rfl) (jup_o rfl (jup_pi (lv := (jup lv 6 (jI v19))) (j := 6) (v := jI z21) (z := v19) rfl)) ?_
        refine ey_iconst (cd_69 rfl) ?_
        refine ey_isub (cd_69 rfl) ?_
        by_cases q26 : (jw z23) = (jw (v19 - 1))
        · rw [if_pos q26] at e
          refine ey_nne (cd_69 rfl) rfl rfl rfl (fun w => w q26) ?_
          refine ey_aload_n (cd_69 rfl) f0 ?_
          refine ey_aload_n (cd_69 rfl) f1 ?_
          refine ey_aload_n (cd_69 rfl) f2 ?_
          refine ey_iload (cd_69 rfl) (jup_o rfl (jup_o rfl (jup_pi (lv := lv) (j := 5) (v := jI v19) (z := x5) f5))) ?_
          refine ey_iload (cd_69 rfl) (jup_o rfl (jup_pi (lv := (jup lv 6 (jI v19))) (j := 6) (v := jI z21) (z := v19) rfl)) ?_
          obtain ⟨u27, e28, e⟩ := jbind e
          obtain ⟨h29, e30, e⟩ := jbind e
          refine ey_cv (s0 := [jI v19, jI x5, jR x2, jR x1, jR (some this)]) (s1 := []) (st' := []) (cd_69 rfl) mt_69 mt_70 rfl rfl rfl (jck_s e28) rfl (jsml_s rfl) rfl (mm_Runs.up (d := 4) (by decide) (ok_70 e30)) ?_
          refine ey_goto (cd_69 rfl) rfl ?_
          exact jk_69_b110 e K (jup (jup (jup lv 6 (jI v19)) 7 (jI z21)) 8 (jI z23)) f0 f1 f2 f3 f4 (jup_o rfl (jup_o rfl (jup_pi (lv := lv) (j := 5) (v := jI v19) (z := x5) f5)))
        · rw [if_neg q26] at e
          refine ey_cne (cd_69 rfl) rfl rfl rfl q26 ?_
          exact jk_69_b81 e K (jup (jup (jup lv 6 (jI v19)) 7 (jI z21)) 8 (jI z23)) f0 f1 f2 f3 f4 (jup_o rfl (jup_o rfl (jup_pi (lv := lv) (j := 5) (v := jI v19) (z := x5) f5))) (jup_pi (lv := (jup (jup lv 6 (jI v19)) 7 (jI z21))) (j := 7) (v := jI z23) (z := z21) rfl) rfl
      · rw [if_neg q25] at e
        refine ey_cne (cd_69 rfl) rfl rfl rfl q25 ?_
        exact jk_69_b81 e K (jup (jup (jup lv 6 (jI v19)) 7 (jI z21)) 8 (jI z23)) f0 f1 f2 f3 f4 (jup_o rfl (jup_o rfl (jup_pi (lv := lv) (j := 5) (v := jI v19) (z := x5) f5))) (jup_pi (lv := (jup (jup lv 6 (jI v19)) 7 (jI z21))) (j := 7) (v := jI z23) (z := z21) rfl) rfl
def jd_69_l3 (this : Nat) (x1 : Option Nat) (x2 : Option Nat) (x3 : Int) (x4 : Int) (x5 : Int) (h : jH) : Option (jH ⊕ jH) :=
  jlp (fun s : (Int × jH) => jd_69_s3 this x1 x2 x3 x4 s.1 s.2) jfu (x5, h)
theorem jk_69_l3 {L : Nat} {xs : Nat → Int32} {this : Nat} {x1 : Option Nat} {x2 : Option Nat} {x3 : Int} {x4 : Int} {x5 : Int} {h : jH} {x : (jH ⊕ jH)} {r : mm_R} (e : jd_69_l3 this x1 x2 x3 x4 x5 h = some x) (K : (jsm (fun y => (∀ lv : jL, ey (mm_xt L xs) 6 69 108 lv [] y r)) (fun z => (∀ lv : jL, ey (mm_xt L xs) 6 69 116 lv [] z r)) x)) : ∀ lv : jL, lv 0 = some (jR (some this)) → lv 1 = some (jR x1) → lv 2 = some (jR x2) → lv 3 = some (jI x3) → lv 4 = some (jI x4) → lv 5 = some (jI x5) → ey (mm_xt L xs) 6 69 3 lv [] h r := by
  unfold jd_69_l3 at e
  exact jlp_ok2 (P := fun s => ∀ lv : jL, lv 0 = some (jR (some this)) → lv 1 = some (jR x1) → lv 2 = some (jR x2) → lv 3 = some (jI x3) → lv 4 = some (jI x4) → lv 5 = some (jI s.1) → ey (mm_xt L xs) 6 69 3 lv [] s.2 r) (Q := fun x => (jsm (fun y => (∀ lv : jL, ey (mm_xt L xs) 6 69 108 lv [] y r)) (fun z => (∀ lv : jL, ey (mm_xt L xs) 6 69 116 lv [] z r)) x)) (fun s q hq hk => jk_69_s3 hq hk) jfu _ x e K
def jd_69 (this : Nat) (p0 : Option Nat) (p1 : Option Nat) (p2 : Int) (p3 : Int) (h : jH) : Option (Int × jH) :=
  ((jd_69_l3 this p0 p1 p2 p3 0 h).bind fun x45 => jse x45 (fun y47 => some (0, y47)) (fun y48 => some (1, y48)))
set_option maxRecDepth 100000 in
theorem ok_69 {L : Nat} {xs : Nat → Int32} {this : Nat} {p0 : Option Nat} {p1 : Option Nat} {p2 : Int} {p3 : Int} {h : jH} {o : (Int × jH)} (e : jd_69 this p0 p1 p2 p3 h = some o) : mm_Runs (mm_xt L xs) 7 69 ([jR (some this), jR p0, jR p1, jI p2, jI p3].map jcv) (jaH h) (.inl (some (jcv (jI o.1)), jaH o.2)) := by
  refine ey_run0 _ mt_69 (jsl_s rfl) ?_
  unfold jd_69 at e
  refine ey_iconst (cd_69 rfl) ?_
  refine ey_istore (cd_69 rfl) mt_69 rfl ?_
  obtain ⟨x45, e46, e⟩ := jbind e
  refine jk_69_l3 e46 ?_ (jup (jlf (jla 0 [jR (some this), jR p0, jR p1, jI p2, jI p3])) 5 (jI 0)) rfl rfl rfl rfl (jup_pi (lv := (jlf (jla 0 [jR (some this), jR p0, jR p1, jI p2, jI p3]))) (j := 4) (v := jI 0) (z := p3) rfl) rfl
  cases x45 with
  | inl y47 =>
    replace e : (some (0, y47) : Option (Int × jH)) = some o := e
    intro lv 
    refine ey_iconst (cd_69 rfl) ?_
    cases e
    exact ey_retz (cd_69 rfl) mt_69 rfl (Or.inl rfl)
  | inr y48 =>
    replace e : (some (1, y48) : Option (Int × jH)) = some o := e
    intro lv 
    refine ey_iconst (cd_69 rfl) ?_
    cases e
    exact ey_retz (cd_69 rfl) mt_69 rfl (Or.inr rfl)
theorem cd_99 {pc : Nat} {i : Instr × Nat} (h : mm_lk mm_c99 pc = some i) : mm_cd 99 pc = some i := h
theorem mt_99 : mm_MT 99 = (6, 1, some .int, 0, 0, []) := rfl
def jd_99 (this : Nat)  (h : jH) : Option Int :=
  ((jgi h this 6 0).bind fun v1 => ((jgi h this 6 1).bind fun v3 => some (jdiv ((v1 * v3) * 3) 2)))
set_option maxRecDepth 100000 in
theorem ok_99 {L : Nat} {xs : Nat → Int32} {this : Nat}  {h : jH} {o : Int} (e : jd_99 this  h = some o) : mm_Runs (mm_xt L xs) 1 99 ([jR (some this)].map jcv) (jaH h) (.inl (some (jcv (jI o)), jaH h)) := by
  refine ey_run0 _ mt_99 (jsl_s rfl) ?_
  unfold jd_99 at e
  refine ey_aload_n (cd_99 rfl) rfl ?_
  obtain ⟨v1, e2, e⟩ := jbind e
  refine ey_getf_i (cd_99 rfl) mt_99 rfl rfl rfl e2 ?_
  refine ey_aload_n (cd_99 rfl) rfl ?_
  obtain ⟨v3, e4, e⟩ := jbind e
  refine ey_getf_i (cd_99 rfl) mt_99 rfl rfl rfl e4 ?_
  refine ey_imul (cd_99 rfl) ?_
  refine ey_iconst (cd_99 rfl) ?_
  refine ey_imul (cd_99 rfl) ?_
  refine ey_iconst (cd_99 rfl) ?_
  refine ey_idiv (cd_99 rfl) (by decide) ?_
  cases e
  exact ey_reti (cd_99 rfl) mt_99 rfl
theorem cd_100 {pc : Nat} {i : Instr × Nat} (h : mm_lk mm_c100 pc = some i) : mm_cd 100 pc = some i := h
theorem mt_100 : mm_MT 100 = (6, 2, some .boolean, 1, 0, []) := rfl
def jd_100_b27 (this : Nat) (y0 : Int) (h : jH) : Option Int :=
  ((jbc y0).bind fun u14 => some y0)
set_option maxRecDepth 100000 in
theorem jk_100_b27 {L : Nat} {xs : Nat → Int32} {this : Nat} {y0 : Int} {h : jH} {o : Int} (e : jd_100_b27 this y0 h = some o) : ∀ lv : jL, ey (mm_xt L xs) 0 100 27 lv [jI y0] h (.inl (some (jcv (jI o)), jaH h)) := by
  intro lv 
  unfold jd_100_b27 at e
  obtain ⟨u14, e15, e⟩ := jbind e
  cases e
  exact ey_retz (cd_100 rfl) mt_100 rfl (jbc_s e15)
def jd_100 (this : Nat) (p0 : Option Nat) (h : jH) : Option Int :=
  ((jgi h this 6 0).bind fun v1 => ((p0).bind fun a3 => ((jgi h a3 6 0).bind fun v5 => (if (jw v1) = (jw v5) then ((jgi h this 6 1).bind fun v8 => ((p0).bind fun a10 => ((jgi h a10 6 1).bind fun v12 => jd_100_b27 this (if (jw v8) = (jw v12) then 1 else 0) h))) else jd_100_b27 this 0 h))))
set_option maxRecDepth 100000 in
theorem ok_100 {L : Nat} {xs : Nat → Int32} {this : Nat} {p0 : Option Nat} {h : jH} {o : Int} (e : jd_100 this p0 h = some o) : mm_Runs (mm_xt L xs) 1 100 ([jR (some this), jR p0].map jcv) (jaH h) (.inl (some (jcv (jI o)), jaH h)) := by
  refine ey_run0 _ mt_100 (jsl_s rfl) ?_
  unfold jd_100 at e
  refine ey_aload_n (cd_100 rfl) rfl ?_
  obtain ⟨v1, e2, e⟩ := jbind e
  refine ey_getf_i (cd_100 rfl) mt_100 rfl rfl rfl e2 ?_
  refine ey_aload_n (cd_100 rfl) rfl ?_
  obtain ⟨a3, e4, e⟩ := jbind e
  refine ey_rs (s0 := [jR p0, jI v1]) (s1 := [jR (some a3), jI v1]) (by rw [e4]) ?_
  obtain ⟨v5, e6, e⟩ := jbind e
  refine ey_getf_i (cd_100 rfl) mt_100 rfl rfl rfl e6 ?_
  by_cases q7 : (jw v1) = (jw v5)
  · rw [if_pos q7] at e
    refine ey_nne (cd_100 rfl) rfl rfl rfl (fun w => w q7) ?_
    refine ey_aload_n (cd_100 rfl) rfl ?_
    obtain ⟨v8, e9, e⟩ := jbind e
    refine ey_getf_i (cd_100 rfl) mt_100 rfl rfl rfl e9 ?_
    refine ey_aload_n (cd_100 rfl) rfl ?_
    obtain ⟨a10, e11, e⟩ := jbind e
    refine ey_rs (s0 := [jR p0, jI v8]) (s1 := [jR (some a10), jI v8]) (by rw [e11]) ?_
    obtain ⟨v12, e13, e⟩ := jbind e
    refine ey_getf_i (cd_100 rfl) mt_100 rfl rfl rfl e13 ?_
    have K16 : ∀ lv : jL, ey (mm_xt L xs) 0 100 27 lv [jI (if (jw v8) = (jw v12) then 1 else 0)] h (.inl (some (jcv (jI o)), jaH h)) := by
      intro lv 
      exact jk_100_b27 e lv 
    by_cases q17 : (jw v8) = (jw v12)
    · refine ey_nne (cd_100 rfl) rfl rfl rfl (fun w => w q17) ?_
      refine ey_iconst (cd_100 rfl) ?_
      refine ey_goto (cd_100 rfl) rfl ?_
      exact ey_rs (s0 := [jI 1]) (s1 := [jI (if (jw v8) = (jw v12) then 1 else 0)]) (by rw [show ((if (jw v8) = (jw v12) then 1 else 0) : Int) = 1 from (if_pos q17)]) (K16 (jlf (jla 0 [jR (some this), jR p0])) )
    · refine ey_cne (cd_100 rfl) rfl rfl rfl q17 ?_
      refine ey_iconst (cd_100 rfl) ?_
      exact ey_rs (s0 := [jI 0]) (s1 := [jI (if (jw v8) = (jw v12) then 1 else 0)]) (by rw [show ((if (jw v8) = (jw v12) then 1 else 0) : Int) = 0 from (if_neg q17)]) (K16 (jlf (jla 0 [jR (some this), jR p0])) )
  · rw [if_neg q7] at e
    refine ey_cne (cd_100 rfl) rfl rfl rfl q7 ?_
    refine ey_iconst (cd_100 rfl) ?_
    exact jk_100_b27 e (jlf (jla 0 [jR (some this), jR p0])) 
theorem cd_101 {pc : Nat} {i : Instr × Nat} (h : mm_lk mm_c101 pc = some i) : mm_cd 101 pc = some i := h
theorem mt_101 : mm_MT 101 = (6, 6, none, 2, 0, []) := rfl
def jd_101_s24 (this : Nat) (x2 : Int) (x4 : Int) (x5 : Int) (h : jH) : Option ((Int × jH) ⊕ jH) :=
  (if (jw x4) ≤ (jw x5) then some (.inr h) else ((jgr h this 6 2).bind fun r14 => ((r14).bind fun a16 => ((jta h a16 0 x5 x2).bind fun h18 => some (.inl ((x5 + 1), h18))))))
set_option maxRecDepth 100000 in
theorem jk_101_s24 {L : Nat} {xs : Nat → Int32} {this : Nat} {x2 : Int} {x4 : Int} {x5 : Int} {h : jH} {o : ((Int × jH) ⊕ jH)} {r : mm_R} (e : jd_101_s24 this x2 x4 x5 h = some o) (K : jsm (fun s => (∀ lv : jL, lv 0 = some (jR (some this)) → lv 2 = some (jI x2) → lv 4 = some (jI x4) → lv 5 = some (jI s.1) → ey (mm_xt L xs) 1 101 24 lv [] s.2 r)) (fun x => (∀ lv : jL, ey (mm_xt L xs) 1 101 45 lv [] x r)) o) : ∀ lv : jL, lv 0 = some (jR (some this)) → lv 2 = some (jI x2) → lv 4 = some (jI x4) → lv 5 = some (jI x5) → ey (mm_xt L xs) 1 101 24 lv [] h r := by
  intro lv f0 f2 f4 f5
  unfold jd_101_s24 at e
  refine ey_iload (cd_101 rfl) f5 ?_
  refine ey_iload (cd_101 rfl) f4 ?_
  by_cases q13 : (jw x4) ≤ (jw x5)
  · rw [if_pos q13] at e
    refine ey_cge (cd_101 rfl) rfl rfl rfl q13 ?_
    cases e
    exact K lv 
  · rw [if_neg q13] at e
    refine ey_nge (cd_101 rfl) rfl rfl rfl q13 ?_
    refine ey_aload_n (cd_101 rfl) f0 ?_
    obtain ⟨r14, e15, e⟩ := jbind e
    refine ey_getf_r (cd_101 rfl) mt_101 rfl rfl rfl e15 ?_
    refine ey_iload (cd_101 rfl) f5 ?_
    refine ey_iload_n (cd_101 rfl) f2 ?_
    obtain ⟨a16, e17, e⟩ := jbind e
    refine ey_rs (s0 := [jI x2, jI x5, jR r14]) (s1 := [jI x2, jI x5, jR (some a16)]) (by rw [e17]) ?_
    obtain ⟨h18, e19, e⟩ := jbind e
    refine ey_iast (cd_101 rfl) e19 ?_
    refine ey_iinc (cd_101 rfl) mt_101 rfl f5 ?_
    refine ey_goto (cd_101 rfl) rfl ?_
    cases e
    exact K (jup lv 5 (jI (x5 + 1))) f0 f2 (jup_pi (lv := lv) (j := 4) (v := jI (x5 + 1)) (z := x4) f4) rfl
def jd_101_l24 (this : Nat) (x2 : Int) (x4 : Int) (x5 : Int) (h : jH) : Option jH :=
  jlp (fun s : (Int × jH) => jd_101_s24 this x2 x4 s.1 s.2) jfu (x5, h)
theorem jk_101_l24 {L : Nat} {xs : Nat → Int32} {this : Nat} {x2 : Int} {x4 : Int} {x5 : Int} {h : jH} {x : jH} {r : mm_R} (e : jd_101_l24 this x2 x4 x5 h = some x) (K : (∀ lv : jL, ey (mm_xt L xs) 1 101 45 lv [] x r)) : ∀ lv : jL, lv 0 = some (jR (some this)) → lv 2 = some (jI x2) → lv 4 = some (jI x4) → lv 5 = some (jI x5) → ey (mm_xt L xs) 1 101 24 lv [] h r := by
  unfold jd_101_l24 at e
  exact jlp_ok2 (P := fun s => ∀ lv : jL, lv 0 = some (jR (some this)) → lv 2 = some (jI x2) → lv 4 = some (jI x4) → lv 5 = some (jI s.1) → ey (mm_xt L xs) 1 101 24 lv [] s.2 r) (Q := fun x => (∀ lv : jL, ey (mm_xt L xs) 1 101 45 lv [] x r)) (fun s q hq hk => jk_101_s24 hq hk) jfu _ x e K
def jd_101 (this : Nat) (p0 : Int) (p1 : Int) (h : jH) : Option jH :=
  ((jck h this 6).bind fun u1 => ((jd_98 this p0 h).bind fun v3 => ((jck h this 6).bind fun u5 => ((jd_96 this p0 h).bind fun v7 => ((jck h this 6).bind fun u9 => ((jd_97 this p0 h).bind fun v11 => ((jd_101_l24 this p1 (v3 + (v7 * v11)) v3 h).bind fun x20 => some x20)))))))
set_option maxRecDepth 100000 in
theorem ok_101 {L : Nat} {xs : Nat → Int32} {this : Nat} {p0 : Int} {p1 : Int} {h : jH} {o : jH} (e : jd_101 this p0 p1 h = some o) : mm_Runs (mm_xt L xs) 2 101 ([jR (some this), jI p0, jI p1].map jcv) (jaH h) (.inl (none, jaH o)) := by
  refine ey_run0 _ mt_101 (jsl_s rfl) ?_
  unfold jd_101 at e
  refine ey_aload_n (cd_101 rfl) rfl ?_
  refine ey_iload_n (cd_101 rfl) rfl ?_
  obtain ⟨u1, e2, e⟩ := jbind e
  obtain ⟨v3, e4, e⟩ := jbind e
  refine ey_cv (s0 := [jI p0, jR (some this)]) (s1 := []) (st' := [jI v3]) (cd_101 rfl) mt_101 mt_98 rfl rfl rfl (jck_s e2) rfl (jsml_s rfl) rfl (ok_98 e4) ?_
  refine ey_istore_n (cd_101 rfl) mt_101 rfl ?_
  refine ey_iload_n (cd_101 rfl) rfl ?_
  refine ey_aload_n (cd_101 rfl) rfl ?_
  refine ey_iload_n (cd_101 rfl) rfl ?_
  obtain ⟨u5, e6, e⟩ := jbind e
  obtain ⟨v7, e8, e⟩ := jbind e
  refine ey_cv (s0 := [jI p0, jR (some this), jI v3]) (s1 := [jI v3]) (st' := [jI v7, jI v3]) (cd_101 rfl) mt_101 mt_96 rfl rfl rfl (jck_s e6) rfl (jsml_s rfl) rfl (ok_96 e8) ?_
  refine ey_aload_n (cd_101 rfl) rfl ?_
  refine ey_iload_n (cd_101 rfl) rfl ?_
  obtain ⟨u9, e10, e⟩ := jbind e
  obtain ⟨v11, e12, e⟩ := jbind e
  refine ey_cv (s0 := [jI p0, jR (some this), jI v7, jI v3]) (s1 := [jI v7, jI v3]) (st' := [jI v11, jI v7, jI v3]) (cd_101 rfl) mt_101 mt_97 rfl rfl rfl (jck_s e10) rfl (jsml_s rfl) rfl (ok_97 e12) ?_
  refine ey_imul (cd_101 rfl) ?_
  refine ey_iadd (cd_101 rfl) ?_
  refine ey_istore (cd_101 rfl) mt_101 rfl ?_
  refine ey_iload_n (cd_101 rfl) (jup_pi (lv := (jup (jlf (jla 0 [jR (some this), jI p0, jI p1])) 3 (jI v3))) (j := 3) (v := jI (v3 + (v7 * v11))) (z := v3) rfl) ?_
  refine ey_istore (cd_101 rfl) mt_101 rfl ?_
  obtain ⟨x20, e21, e⟩ := jbind e
  refine jk_101_l24 e21 ?_ (jup (jup (jup (jlf (jla 0 [jR (some this), jI p0, jI p1])) 3 (jI v3)) 4 (jI (v3 + (v7 * v11)))) 5 (jI v3)) rfl (jup_o rfl (jup_o rfl (jup_pi (lv := (jlf (jla 0 [jR (some this), jI p0, jI p1]))) (j := 2) (v := jI v3) (z := p1) rfl))) (jup_pi (lv := (jup (jup (jlf (jla 0 [jR (some this), jI p0, jI p1])) 3 (jI v3)) 4 (jI (v3 + (v7 * v11))))) (j := 4) (v := jI v3) (z := (v3 + (v7 * v11))) rfl) rfl
  intro lv 
  cases e
  exact ey_retv (cd_101 rfl) mt_101 rfl
theorem cd_102 {pc : Nat} {i : Instr × Nat} (h : mm_lk mm_c102 pc = some i) : mm_cd 102 pc = some i := h
theorem mt_102 : mm_MT 102 = (6, 2, none, 1, 0, []) := rfl
def jd_102 (this : Nat) (p0 : Option Nat) (h : jH) : Option jH :=
  ((p0).bind fun a1 => ((jgi h a1 6 0).bind fun v3 => ((p0).bind fun a5 => ((jgi h a5 6 1).bind fun v7 => ((jck h this 6).bind fun u9 => ((jd_95 this v3 v7 h).bind fun h11 => ((p0).bind fun a13 => ((jgr h11 a13 6 2).bind fun r15 => ((jgr h11 this 6 2).bind fun r17 => ((jck h11 this 6).bind fun u19 => ((jd_99 this h11).bind fun v21 => ((r17).bind fun a23 => ((r15).bind fun a25 => ((jcp h11 a25 0 a23 0 v21).bind fun h27 => some h27))))))))))))))
set_option maxRecDepth 100000 in
theorem ok_102 {L : Nat} {xs : Nat → Int32} {this : Nat} {p0 : Option Nat} {h : jH} {o : jH} (e : jd_102 this p0 h = some o) : mm_Runs (mm_xt L xs) 2 102 ([jR (some this), jR p0].map jcv) (jaH h) (.inl (none, jaH o)) := by
  refine ey_run0 _ mt_102 (jsl_s rfl) ?_
  unfold jd_102 at e
  refine ey_aload_n (cd_102 rfl) rfl ?_
  refine ey_aload_n (cd_102 rfl) rfl ?_
  obtain ⟨a1, e2, e⟩ := jbind e
  refine ey_rs (s0 := [jR p0, jR (some this)]) (s1 := [jR (some a1), jR (some this)]) (by rw [e2]) ?_
  obtain ⟨v3, e4, e⟩ := jbind e
  refine ey_getf_i (cd_102 rfl) mt_102 rfl rfl rfl e4 ?_
  refine ey_aload_n (cd_102 rfl) rfl ?_
  obtain ⟨a5, e6, e⟩ := jbind e
  refine ey_rs (s0 := [jR p0, jI v3, jR (some this)]) (s1 := [jR (some a5), jI v3, jR (some this)]) (by rw [e6]) ?_
  obtain ⟨v7, e8, e⟩ := jbind e
  refine ey_getf_i (cd_102 rfl) mt_102 rfl rfl rfl e8 ?_
  obtain ⟨u9, e10, e⟩ := jbind e
  obtain ⟨h11, e12, e⟩ := jbind e
  refine ey_cv (s0 := [jI v7, jI v3, jR (some this)]) (s1 := []) (st' := []) (cd_102 rfl) mt_102 mt_95 rfl rfl rfl (jck_s e10) rfl (jsml_s rfl) rfl (ok_95 e12) ?_
  refine ey_aload_n (cd_102 rfl) rfl ?_
  obtain ⟨a13, e14, e⟩ := jbind e
  refine ey_rs (s0 := [jR p0]) (s1 := [jR (some a13)]) (by rw [e14]) ?_
  obtain ⟨r15, e16, e⟩ := jbind e
  refine ey_getf_r (cd_102 rfl) mt_102 rfl rfl rfl e16 ?_
  refine ey_iconst (cd_102 rfl) ?_
  refine ey_aload_n (cd_102 rfl) rfl ?_
  obtain ⟨r17, e18, e⟩ := jbind e
  refine ey_getf_r (cd_102 rfl) mt_102 rfl rfl rfl e18 ?_
  refine ey_iconst (cd_102 rfl) ?_
  refine ey_aload_n (cd_102 rfl) rfl ?_
  obtain ⟨u19, e20, e⟩ := jbind e
  obtain ⟨v21, e22, e⟩ := jbind e
  refine ey_cv (s0 := [jR (some this), jI 0, jR r17, jI 0, jR r15]) (s1 := [jI 0, jR r17, jI 0, jR r15]) (st' := [jI v21, jI 0, jR r17, jI 0, jR r15]) (cd_102 rfl) mt_102 mt_99 rfl rfl rfl (jck_s e20) rfl (jsml_s rfl) rfl (ok_99 e22) ?_
  obtain ⟨a23, e24, e⟩ := jbind e
  refine ey_rs (s0 := [jI v21, jI 0, jR r17, jI 0, jR r15]) (s1 := [jI v21, jI 0, jR (some a23), jI 0, jR r15]) (by rw [e24]) ?_
  obtain ⟨a25, e26, e⟩ := jbind e
  refine ey_rs (s0 := [jI v21, jI 0, jR (some a23), jI 0, jR r15]) (s1 := [jI v21, jI 0, jR (some a23), jI 0, jR (some a25)]) (by rw [e26]) ?_
  obtain ⟨h27, e28, e⟩ := jbind e
  refine ey_cpy (cd_102 rfl) mt_102 rfl (jsml_s rfl) e28 ?_
  cases e
  exact ey_retv (cd_102 rfl) mt_102 rfl
theorem cd_105 {pc : Nat} {i : Instr × Nat} (h : mm_lk mm_c105 pc = some i) : mm_cd 105 pc = some i := h
theorem mt_105 : mm_MT 105 = (6, 7, some .int, 2, 0, []) := rfl
def jd_105_b130 (this : Nat) (x1 : Option Nat) (x2 : Int) (x3 : Int) (x4 : Int) (x5 : Int) (h : jH) : Option ((Int × Int) ⊕ Int) :=
  some (.inl (x4, (x5 + 1)))
set_option maxRecDepth 100000 in
theorem jk_105_b130 {L : Nat} {xs : Nat → Int32} {this : Nat} {x1 : Option Nat} {x2 : Int} {x3 : Int} {x4 : Int} {x5 : Int} {h : jH} {o : ((Int × Int) ⊕ Int)} {r : mm_R} (e : jd_105_b130 this x1 x2 x3 x4 x5 h = some o) (K : jsm (fun s => (∀ lv : jL, lv 0 = some (jR (some this)) → lv 1 = some (jR x1) → lv 2 = some (jI x2) → lv 3 = some (jI x3) → lv 4 = some (jI s.1) → lv 5 = some (jI s.2) → ey (mm_xt L xs) 1 105 28 lv [] h r)) (fun x => (∀ lv : jL, lv 4 = some (jI x) → ey (mm_xt L xs) 1 105 136 lv [] h r)) o) : ∀ lv : jL, lv 0 = some (jR (some this)) → lv 1 = some (jR x1) → lv 2 = some (jI x2) → lv 3 = some (jI x3) → lv 4 = some (jI x4) → lv 5 = some (jI x5) → ey (mm_xt L xs) 1 105 130 lv [] h r := by
  intro lv f0 f1 f2 f3 f4 f5
  unfold jd_105_b130 at e
  refine ey_iinc (cd_105 rfl) mt_105 rfl f5 ?_
  refine ey_goto (cd_105 rfl) rfl ?_
  cases e
  exact K (jup lv 5 (jI (x5 + 1))) f0 f1 f2 f3 (jup_pi (lv := lv) (j := 4) (v := jI (x5 + 1)) (z := x4) f4) rfl
def jd_105_s28 (this : Nat) (x1 : Option Nat) (x2 : Int) (x3 : Int) (x4 : Int) (x5 : Int) (h : jH) : Option ((Int × Int) ⊕ Int) :=
  (if (jw x3) ≤ (jw x5) then some (.inr x4) else ((jgr h this 6 2).bind fun r7 => ((r7).bind fun a9 => ((jai h a9 x5).bind fun v11 => ((x1).bind fun a13 => ((jgr h a13 6 2).bind fun r15 => ((r15).bind fun a17 => ((jai h a17 x5).bind fun v19 => ((some (if 0 ≤ jw (v11 - v19) then (v11 - v19) else -(v11 - v19))).bind fun z21 => jd_105_b130 this x1 x2 x3 (if (jw x2) = 0 then (x4 + z21) else (if (jw x2) = 1 then (x4 + (z21 * z21)) else (if (jw x2) = 2 then (if (jw z21) = 0 then (x4 + 0) else (x4 + 1)) else (if jw x4 < jw z21 then z21 else x4)))) x5 h)))))))))
set_option maxRecDepth 100000 in
theorem jk_105_s28 {L : Nat} {xs : Nat → Int32} {this : Nat} {x1 : Option Nat} {x2 : Int} {x3 : Int} {x4 : Int} {x5 : Int} {h : jH} {o : ((Int × Int) ⊕ Int)} {r : mm_R} (e : jd_105_s28 this x1 x2 x3 x4 x5 h = some o) (K : jsm (fun s => (∀ lv : jL, lv 0 = some (jR (some this)) → lv 1 = some (jR x1) → lv 2 = some (jI x2) → lv 3 = some (jI x3) → lv 4 = some (jI s.1) → lv 5 = some (jI s.2) → ey (mm_xt L xs) 1 105 28 lv [] h r)) (fun x => (∀ lv : jL, lv 4 = some (jI x) → ey (mm_xt L xs) 1 105 136 lv [] h r)) o) : ∀ lv : jL, lv 0 = some (jR (some this)) → lv 1 = some (jR x1) → lv 2 = some (jI x2) → lv 3 = some (jI x3) → lv 4 = some (jI x4) → lv 5 = some (jI x5) → ey (mm_xt L xs) 1 105 28 lv [] h r := by
  intro lv f0 f1 f2 f3 f4 f5
  unfold jd_105_s28 at e
  refine ey_iload (cd_105 rfl) f5 ?_
  refine ey_iload_n (cd_105 rfl) f3 ?_
  by_cases q6 : (jw x3) ≤ (jw x5)
  · rw [if_pos q6] at e
    refine ey_cge (cd_105 rfl) rfl rfl rfl q6 ?_
    cases e
    exact K lv f4
  · rw [if_neg q6] at e
    refine ey_nge (cd_105 rfl) rfl rfl rfl q6 ?_
    refine ey_aload_n (cd_105 rfl) f0 ?_
    obtain ⟨r7, e8, e⟩ := jbind e
    refine ey_getf_r (cd_105 rfl) mt_105 rfl rfl rfl e8 ?_
    refine ey_iload (cd_105 rfl) f5 ?_
    obtain ⟨a9, e10, e⟩ := jbind e
    refine ey_rs (s0 := [jI x5, jR r7]) (s1 := [jI x5, jR (some a9)]) (by rw [e10]) ?_
    obtain ⟨v11, e12, e⟩ := jbind e
    refine ey_iald (cd_105 rfl) e12 ?_
    refine ey_aload_n (cd_105 rfl) f1 ?_
    obtain ⟨a13, e14, e⟩ := jbind e
    refine ey_rs (s0 := [jR x1, jI v11]) (s1 := [jR (some a13), jI v11]) (by rw [e14]) ?_
    obtain ⟨r15, e16, e⟩ := jbind e
    refine ey_getf_r (cd_105 rfl) mt_105 rfl rfl rfl e16 ?_
    refine ey_iload (cd_105 rfl) f5 ?_
    obtain ⟨a17, e18, e⟩ := jbind e
    refine ey_rs (s0 := [jI x5, jR r15, jI v11]) (s1 := [jI x5, jR (some a17), jI v11]) (by rw [e18]) ?_
    obtain ⟨v19, e20, e⟩ := jbind e
    refine ey_iald (cd_105 rfl) e20 ?_
    refine ey_isub (cd_105 rfl) ?_
    refine ey_abs (cd_105 rfl) mt_105 rfl (jsml_s rfl) ?_
    obtain ⟨z21, e22, e⟩ := jbind e
    refine ey_rs (s0 := [jI (if 0 ≤ jw (v11 - v19) then (v11 - v19) else -(v11 - v19))]) (s1 := [jI z21]) (by rw [show (if 0 ≤ jw (v11 - v19) then (v11 - v19) else -(v11 - v19)) = z21 from Option.some.inj e22]) ?_
    refine ey_istore (cd_105 rfl) mt_105 rfl ?_
    refine ey_iload_n (cd_105 rfl) f2 ?_
    have K23 : ∀ lv : jL, lv 0 = some (jR (some this)) → lv 1 = some (jR x1) → lv 2 = some (jI x2) → lv 3 = some (jI x3) → lv 4 = some (jI (if (jw x2) = 0 then (x4 + z21) else (if (jw x2) = 1 then (x4 + (z21 * z21)) else (if (jw x2) = 2 then (if (jw z21) = 0 then (x4 + 0) else (x4 + 1)) else (if jw x4 < jw z21 then z21 else x4))))) → lv 5 = some (jI x5) → ey (mm_xt L xs) 1 105 130 lv [] h r := by
      intro lv g0 g1 g2 g3 g4 g5
      exact jk_105_b130 e K lv g0 g1 g2 g3 g4 g5
    by_cases q24 : (jw x2) = 0
    · refine ey_tsw (cd_105 rfl) q24 (by decide) rfl rfl ?_
      refine ey_iload (cd_105 rfl) f4 ?_
      refine ey_iload (cd_105 rfl) rfl ?_
      refine ey_iadd (cd_105 rfl) ?_
      refine ey_istore (cd_105 rfl) mt_105 rfl ?_
      refine ey_goto (cd_105 rfl) rfl ?_
      exact K23 (jup (jup lv 6 (jI z21)) 4 (jI (x4 + z21))) f0 f1 f2 (jup_pi (lv := (jup lv 6 (jI z21))) (j := 3) (v := jI (x4 + z21)) (z := x3) f3) (Eq.trans (show (jup (jup lv 6 (jI z21)) 4 (jI (x4 + z21))) 4 = some (jI (x4 + z21)) from rfl) (congrArg (fun z => some (jI z)) (Eq.symm (if_pos q24)))) (jup_o rfl (jup_pi (lv := lv) (j := 5) (v := jI z21) (z := x5) f5))
    · by_cases q25 : (jw x2) = 1
      · refine ey_tsw (cd_105 rfl) q25 (by decide) rfl rfl ?_
        refine ey_iload (cd_105 rfl) f4 ?_
        refine ey_iload (cd_105 rfl) rfl ?_
        refine ey_iload (cd_105 rfl) rfl ?_
        refine ey_imul (cd_105 rfl) ?_
        refine ey_iadd (cd_105 rfl) ?_
        refine ey_istore (cd_105 rfl) mt_105 rfl ?_
        refine ey_goto (cd_105 rfl) rfl ?_
        exact K23 (jup (jup lv 6 (jI z21)) 4 (jI (x4 + (z21 * z21)))) f0 f1 f2 (jup_pi (lv := (jup lv 6 (jI z21))) (j := 3) (v := jI (x4 + (z21 * z21))) (z := x3) f3) (Eq.trans (show (jup (jup lv 6 (jI z21)) 4 (jI (x4 + (z21 * z21)))) 4 = some (jI (x4 + (z21 * z21))) from rfl) (congrArg (fun z => some (jI z)) (Eq.symm ((if_neg q24).trans (if_pos q25))))) (jup_o rfl (jup_pi (lv := lv) (j := 5) (v := jI z21) (z := x5) f5))
      · by_cases q26 : (jw x2) = 2
        · refine ey_tsw (cd_105 rfl) q26 (by decide) rfl rfl ?_
          refine ey_iload (cd_105 rfl) f4 ?_
          refine ey_iload (cd_105 rfl) rfl ?_
          by_cases q27 : (jw z21) = 0
          · refine ey_yne (cd_105 rfl) rfl rfl (fun w => w q27) ?_
            refine ey_iconst (cd_105 rfl) ?_
            refine ey_goto (cd_105 rfl) rfl ?_
            refine ey_iadd (cd_105 rfl) ?_
            refine ey_istore (cd_105 rfl) mt_105 rfl ?_
            refine ey_goto (cd_105 rfl) rfl ?_
            exact K23 (jup (jup lv 6 (jI z21)) 4 (jI (x4 + 0))) f0 f1 f2 (jup_pi (lv := (jup lv 6 (jI z21))) (j := 3) (v := jI (x4 + 0)) (z := x3) f3) (Eq.trans (show (jup (jup lv 6 (jI z21)) 4 (jI (x4 + 0))) 4 = some (jI (x4 + 0)) from rfl) (congrArg (fun z => some (jI z)) (Eq.symm ((if_neg q24).trans ((if_neg q25).trans ((if_pos q26).trans (if_pos q27))))))) (jup_o rfl (jup_pi (lv := lv) (j := 5) (v := jI z21) (z := x5) f5))
          · refine ey_zne (cd_105 rfl) rfl rfl q27 ?_
            refine ey_iconst (cd_105 rfl) ?_
            refine ey_iadd (cd_105 rfl) ?_
            refine ey_istore (cd_105 rfl) mt_105 rfl ?_
            refine ey_goto (cd_105 rfl) rfl ?_
            exact K23 (jup (jup lv 6 (jI z21)) 4 (jI (x4 + 1))) f0 f1 f2 (jup_pi (lv := (jup lv 6 (jI z21))) (j := 3) (v := jI (x4 + 1)) (z := x3) f3) (Eq.trans (show (jup (jup lv 6 (jI z21)) 4 (jI (x4 + 1))) 4 = some (jI (x4 + 1)) from rfl) (congrArg (fun z => some (jI z)) (Eq.symm ((if_neg q24).trans ((if_neg q25).trans ((if_pos q26).trans (if_neg q27))))))) (jup_o rfl (jup_pi (lv := lv) (j := 5) (v := jI z21) (z := x5) f5))
        · refine ey_tsw_d (cd_105 rfl) (by omega) rfl ?_
          refine ey_iload (cd_105 rfl) f4 ?_
          refine ey_iload (cd_105 rfl) rfl ?_
          refine ey_max (cd_105 rfl) mt_105 rfl (jsml_s rfl) ?_
          refine ey_istore (cd_105 rfl) mt_105 rfl ?_
          exact K23 (jup (jup lv 6 (jI z21)) 4 (jI (if jw x4 < jw z21 then z21 else x4))) f0 f1 f2 (jup_pi (lv := (jup lv 6 (jI z21))) (j := 3) (v := jI (if jw x4 < jw z21 then z21 else x4)) (z := x3) f3) (Eq.trans (show (jup (jup lv 6 (jI z21)) 4 (jI (if jw x4 < jw z21 then z21 else x4))) 4 = some (jI (if jw x4 < jw z21 then z21 else x4)) from rfl) (congrArg (fun z => some (jI z)) (Eq.symm ((if_neg q24).trans ((if_neg q25).trans (if_neg q26)))))) (jup_o rfl (jup_pi (lv := lv) (j := 5) (v := jI z21) (z := x5) f5))
def jd_105_l28 (this : Nat) (x1 : Option Nat) (x2 : Int) (x3 : Int) (x4 : Int) (x5 : Int) (h : jH) : Option Int :=
  jlp (fun s : (Int × Int) => jd_105_s28 this x1 x2 x3 s.1 s.2 h) jfu (x4, x5)
theorem jk_105_l28 {L : Nat} {xs : Nat → Int32} {this : Nat} {x1 : Option Nat} {x2 : Int} {x3 : Int} {x4 : Int} {x5 : Int} {h : jH} {x : Int} {r : mm_R} (e : jd_105_l28 this x1 x2 x3 x4 x5 h = some x) (K : (∀ lv : jL, lv 4 = some (jI x) → ey (mm_xt L xs) 1 105 136 lv [] h r)) : ∀ lv : jL, lv 0 = some (jR (some this)) → lv 1 = some (jR x1) → lv 2 = some (jI x2) → lv 3 = some (jI x3) → lv 4 = some (jI x4) → lv 5 = some (jI x5) → ey (mm_xt L xs) 1 105 28 lv [] h r := by
  unfold jd_105_l28 at e
  exact jlp_ok2 (P := fun s => ∀ lv : jL, lv 0 = some (jR (some this)) → lv 1 = some (jR x1) → lv 2 = some (jI x2) → lv 3 = some (jI x3) → lv 4 = some (jI s.1) → lv 5 = some (jI s.2) → ey (mm_xt L xs) 1 105 28 lv [] h r) (Q := fun x => (∀ lv : jL, lv 4 = some (jI x) → ey (mm_xt L xs) 1 105 136 lv [] h r)) (fun s q hq hk => jk_105_s28 hq hk) jfu _ x e K
def jd_105_b21 (this : Nat) (x1 : Option Nat) (x2 : Int) (y0 : Int) (h : jH) : Option Int :=
  ((jd_105_l28 this x1 x2 y0 0 0 h).bind fun x28 => some x28)
set_option maxRecDepth 100000 in
theorem jk_105_b21 {L : Nat} {xs : Nat → Int32} {this : Nat} {x1 : Option Nat} {x2 : Int} {y0 : Int} {h : jH} {o : Int} (e : jd_105_b21 this x1 x2 y0 h = some o) : ∀ lv : jL, lv 0 = some (jR (some this)) → lv 1 = some (jR x1) → lv 2 = some (jI x2) → ey (mm_xt L xs) 1 105 21 lv [jI y0] h (.inl (some (jcv (jI o)), jaH h)) := by
  intro lv f0 f1 f2
  unfold jd_105_b21 at e
  refine ey_istore_n (cd_105 rfl) mt_105 rfl ?_
  refine ey_iconst (cd_105 rfl) ?_
  refine ey_istore (cd_105 rfl) mt_105 rfl ?_
  refine ey_iconst (cd_105 rfl) ?_
  refine ey_istore (cd_105 rfl) mt_105 rfl ?_
  obtain ⟨x28, e29, e⟩ := jbind e
  refine jk_105_l28 e29 ?_ (jup (jup (jup lv 3 (jI y0)) 4 (jI 0)) 5 (jI 0)) f0 f1 (jup_o rfl (jup_o rfl (jup_pi (lv := lv) (j := 2) (v := jI y0) (z := x2) f2))) (jup_o rfl (jup_pi (lv := (jup lv 3 (jI y0))) (j := 3) (v := jI 0) (z := y0) rfl)) (jup_pi (lv := (jup (jup lv 3 (jI y0)) 4 (jI 0))) (j := 4) (v := jI 0) (z := 0) rfl) rfl
  intro lv g4
  refine ey_iload (cd_105 rfl) g4 ?_
  cases e
  exact ey_reti (cd_105 rfl) mt_105 rfl
def jd_105 (this : Nat) (p0 : Option Nat) (p1 : Int) (h : jH) : Option Int :=
  (if (jw p1) = 3 then ((jgi h this 6 0).bind fun v2 => ((jgi h this 6 1).bind fun v4 => jd_105_b21 this p0 p1 (v2 * v4) h)) else ((jck h this 6).bind fun u30 => ((jd_99 this h).bind fun v32 => jd_105_b21 this p0 p1 v32 h)))
set_option maxRecDepth 100000 in
theorem ok_105 {L : Nat} {xs : Nat → Int32} {this : Nat} {p0 : Option Nat} {p1 : Int} {h : jH} {o : Int} (e : jd_105 this p0 p1 h = some o) : mm_Runs (mm_xt L xs) 2 105 ([jR (some this), jR p0, jI p1].map jcv) (jaH h) (.inl (some (jcv (jI o)), jaH h)) := by
  refine ey_run0 _ mt_105 (jsl_s rfl) ?_
  unfold jd_105 at e
  refine ey_iload_n (cd_105 rfl) rfl ?_
  refine ey_iconst (cd_105 rfl) ?_
  by_cases q1 : (jw p1) = 3
  · rw [if_pos q1] at e
    refine ey_nne (cd_105 rfl) rfl rfl (show jw 3 = 3 from by decide) (fun w => w q1) ?_
    refine ey_aload_n (cd_105 rfl) rfl ?_
    obtain ⟨v2, e3, e⟩ := jbind e
    refine ey_getf_i (cd_105 rfl) mt_105 rfl rfl rfl e3 ?_
    refine ey_aload_n (cd_105 rfl) rfl ?_
    obtain ⟨v4, e5, e⟩ := jbind e
    refine ey_getf_i (cd_105 rfl) mt_105 rfl rfl rfl e5 ?_
    refine ey_imul (cd_105 rfl) ?_
    refine ey_goto (cd_105 rfl) rfl ?_
    exact jk_105_b21 e (jlf (jla 0 [jR (some this), jR p0, jI p1])) rfl rfl rfl
  · rw [if_neg q1] at e
    refine ey_cne (cd_105 rfl) rfl rfl (show jw 3 = 3 from by decide) q1 ?_
    refine ey_aload_n (cd_105 rfl) rfl ?_
    obtain ⟨u30, e31, e⟩ := jbind e
    obtain ⟨v32, e33, e⟩ := jbind e
    refine ey_cv (s0 := [jR (some this)]) (s1 := []) (st' := [jI v32]) (cd_105 rfl) mt_105 mt_99 rfl rfl rfl (jck_s e31) rfl (jsml_s rfl) rfl (ok_99 e33) ?_
    exact jk_105_b21 e (jlf (jla 0 [jR (some this), jR p0, jI p1])) rfl rfl rfl
theorem cd_106 {pc : Nat} {i : Instr × Nat} (h : mm_lk mm_c106 pc = some i) : mm_cd 106 pc = some i := h
theorem mt_106 : mm_MT 106 = (6, 6, some .boolean, 1, 0, []) := rfl
def jd_106_s18 (this : Nat) (x1 : Option Nat) (x2 : Int) (x3 : Option Nat) (x4 : Int) (h : jH) : Option ((Int × jH) ⊕ jH) :=
  (if (jw x2) ≤ (jw x4) then some (.inr h) else ((jgr h this 6 2).bind fun r8 => ((r8).bind fun a10 => ((jai h a10 x4).bind fun v12 => ((x3).bind fun a14 => ((jai h a14 (jand (jshr v12 4) 15)).bind fun v16 => ((x3).bind fun a18 => ((jta h a18 0 (jand (jshr v12 4) 15) (v16 + 1)).bind fun h20 => ((x1).bind fun a22 => ((jgr h20 a22 6 2).bind fun r24 => ((r24).bind fun a26 => ((jai h20 a26 x4).bind fun v28 => ((x3).bind fun a30 => ((jai h20 a30 (jand (jshr v28 4) 15)).bind fun v32 => ((x3).bind fun a34 => ((jta h20 a34 0 (jand (jshr v28 4) 15) (v32 - 1)).bind fun h36 => some (.inl ((x4 + 1), h36))))))))))))))))))
set_option maxRecDepth 100000 in
theorem jk_106_s18 {L : Nat} {xs : Nat → Int32} {this : Nat} {x1 : Option Nat} {x2 : Int} {x3 : Option Nat} {x4 : Int} {h : jH} {o : ((Int × jH) ⊕ jH)} {r : mm_R} (e : jd_106_s18 this x1 x2 x3 x4 h = some o) (K : jsm (fun s => (∀ lv : jL, lv 0 = some (jR (some this)) → lv 1 = some (jR x1) → lv 2 = some (jI x2) → lv 3 = some (jR x3) → lv 4 = some (jI s.1) → ey (mm_xt L xs) 0 106 18 lv [] s.2 r)) (fun x => (∀ lv : jL, lv 2 = some (jI x2) → lv 3 = some (jR x3) → ey (mm_xt L xs) 0 106 66 lv [] x r)) o) : ∀ lv : jL, lv 0 = some (jR (some this)) → lv 1 = some (jR x1) → lv 2 = some (jI x2) → lv 3 = some (jR x3) → lv 4 = some (jI x4) → ey (mm_xt L xs) 0 106 18 lv [] h r := by
  intro lv f0 f1 f2 f3 f4
  unfold jd_106_s18 at e
  refine ey_iload (cd_106 rfl) f4 ?_
  refine ey_iload_n (cd_106 rfl) f2 ?_
  by_cases q7 : (jw x2) ≤ (jw x4)
  · rw [if_pos q7] at e
    refine ey_cge (cd_106 rfl) rfl rfl rfl q7 ?_
    cases e
    exact K lv f2 f3
  · rw [if_neg q7] at e
    refine ey_nge (cd_106 rfl) rfl rfl rfl q7 ?_
    refine ey_aload_n (cd_106 rfl) f3 ?_
    refine ey_aload_n (cd_106 rfl) f0 ?_
    obtain ⟨r8, e9, e⟩ := jbind e
    refine ey_getf_r (cd_106 rfl) mt_106 rfl rfl rfl e9 ?_
    refine ey_iload (cd_106 rfl) f4 ?_
    obtain ⟨a10, e11, e⟩ := jbind e
    refine ey_rs (s0 := [jI x4, jR r8, jR x3]) (s1 := [jI x4, jR (some a10), jR x3]) (by rw [e11]) ?_
    obtain ⟨v12, e13, e⟩ := jbind e
    refine ey_iald (cd_106 rfl) e13 ?_
    refine ey_iconst (cd_106 rfl) ?_
    refine ey_ishr (cd_106 rfl) ?_
    refine ey_bipush (cd_106 rfl) (by decide) ?_
    refine ey_iand (cd_106 rfl) ?_
    refine ey_dup2 (cd_106 rfl) rfl rfl ?_
    obtain ⟨a14, e15, e⟩ := jbind e
    refine ey_rs (s0 := [jI (jand (jshr v12 4) 15), jR x3, jI (jand (jshr v12 4) 15), jR x3]) (s1 := [jI (jand (jshr v12 4) 15), jR (some a14), jI (jand (jshr v12 4) 15), jR x3]) (by rw [e15]) ?_
    obtain ⟨v16, e17, e⟩ := jbind e
    refine ey_iald (cd_106 rfl) e17 ?_
    refine ey_iconst (cd_106 rfl) ?_
    refine ey_iadd (cd_106 rfl) ?_
    obtain ⟨a18, e19, e⟩ := jbind e
    refine ey_rs (s0 := [jI (v16 + 1), jI (jand (jshr v12 4) 15), jR x3]) (s1 := [jI (v16 + 1), jI (jand (jshr v12 4) 15), jR (some a18)]) (by rw [e19]) ?_
    obtain ⟨h20, e21, e⟩ := jbind e
    refine ey_iast (cd_106 rfl) e21 ?_
    refine ey_aload_n (cd_106 rfl) f3 ?_
    refine ey_aload_n (cd_106 rfl) f1 ?_
    obtain ⟨a22, e23, e⟩ := jbind e
    refine ey_rs (s0 := [jR x1, jR x3]) (s1 := [jR (some a22), jR x3]) (by rw [e23]) ?_
    obtain ⟨r24, e25, e⟩ := jbind e
    refine ey_getf_r (cd_106 rfl) mt_106 rfl rfl rfl e25 ?_
    refine ey_iload (cd_106 rfl) f4 ?_
    obtain ⟨a26, e27, e⟩ := jbind e
    refine ey_rs (s0 := [jI x4, jR r24, jR x3]) (s1 := [jI x4, jR (some a26), jR x3]) (by rw [e27]) ?_
    obtain ⟨v28, e29, e⟩ := jbind e
    refine ey_iald (cd_106 rfl) e29 ?_
    refine ey_iconst (cd_106 rfl) ?_
    refine ey_ishr (cd_106 rfl) ?_
    refine ey_bipush (cd_106 rfl) (by decide) ?_
    refine ey_iand (cd_106 rfl) ?_
    refine ey_dup2 (cd_106 rfl) rfl rfl ?_
    obtain ⟨a30, e31, e⟩ := jbind e
    refine ey_rs (s0 := [jI (jand (jshr v28 4) 15), jR x3, jI (jand (jshr v28 4) 15), jR x3]) (s1 := [jI (jand (jshr v28 4) 15), jR (some a30), jI (jand (jshr v28 4) 15), jR x3]) (by rw [e31]) ?_
    obtain ⟨v32, e33, e⟩ := jbind e
    refine ey_iald (cd_106 rfl) e33 ?_
    refine ey_iconst (cd_106 rfl) ?_
    refine ey_isub (cd_106 rfl) ?_
    obtain ⟨a34, e35, e⟩ := jbind e
    refine ey_rs (s0 := [jI (v32 - 1), jI (jand (jshr v28 4) 15), jR x3]) (s1 := [jI (v32 - 1), jI (jand (jshr v28 4) 15), jR (some a34)]) (by rw [e35]) ?_
    obtain ⟨h36, e37, e⟩ := jbind e
    refine ey_iast (cd_106 rfl) e37 ?_
    refine ey_iinc (cd_106 rfl) mt_106 rfl f4 ?_
    refine ey_goto (cd_106 rfl) rfl ?_
    cases e
    exact K (jup lv 4 (jI (x4 + 1))) f0 f1 f2 (jup_pr (lv := lv) (j := 3) (v := jI (x4 + 1)) (z := x3) f3) rfl
def jd_106_l18 (this : Nat) (x1 : Option Nat) (x2 : Int) (x3 : Option Nat) (x4 : Int) (h : jH) : Option jH :=
  jlp (fun s : (Int × jH) => jd_106_s18 this x1 x2 x3 s.1 s.2) jfu (x4, h)
theorem jk_106_l18 {L : Nat} {xs : Nat → Int32} {this : Nat} {x1 : Option Nat} {x2 : Int} {x3 : Option Nat} {x4 : Int} {h : jH} {x : jH} {r : mm_R} (e : jd_106_l18 this x1 x2 x3 x4 h = some x) (K : (∀ lv : jL, lv 2 = some (jI x2) → lv 3 = some (jR x3) → ey (mm_xt L xs) 0 106 66 lv [] x r)) : ∀ lv : jL, lv 0 = some (jR (some this)) → lv 1 = some (jR x1) → lv 2 = some (jI x2) → lv 3 = some (jR x3) → lv 4 = some (jI x4) → ey (mm_xt L xs) 0 106 18 lv [] h r := by
  unfold jd_106_l18 at e
  exact jlp_ok2 (P := fun s => ∀ lv : jL, lv 0 = some (jR (some this)) → lv 1 = some (jR x1) → lv 2 = some (jI x2) → lv 3 = some (jR x3) → lv 4 = some (jI s.1) → ey (mm_xt L xs) 0 106 18 lv [] s.2 r) (Q := fun x => (∀ lv : jL, lv 2 = some (jI x2) → lv 3 = some (jR x3) → ey (mm_xt L xs) 0 106 66 lv [] x r)) (fun s q hq hk => jk_106_s18 hq hk) jfu _ x e K
def jd_106_s72 (this : Nat) (x2 : Int) (x3 : Option Nat) (x4 : Int) (x5 : Int) (h : jH) : Option ((Int × Int) ⊕ Int) :=
  (if 16 ≤ (jw x5) then some (.inr x4) else ((x3).bind fun a41 => ((jai h a41 x5).bind fun v43 => ((some (x4 + (if 0 ≤ jw v43 then v43 else -v43))).bind fun z45 => some (.inl (z45, (x5 + 1)))))))
set_option maxRecDepth 100000 in
theorem jk_106_s72 {L : Nat} {xs : Nat → Int32} {this : Nat} {x2 : Int} {x3 : Option Nat} {x4 : Int} {x5 : Int} {h : jH} {o : ((Int × Int) ⊕ Int)} {r : mm_R} (e : jd_106_s72 this x2 x3 x4 x5 h = some o) (K : jsm (fun s => (∀ lv : jL, lv 2 = some (jI x2) → lv 3 = some (jR x3) → lv 4 = some (jI s.1) → lv 5 = some (jI s.2) → ey (mm_xt L xs) 0 106 72 lv [] h r)) (fun x => (∀ lv : jL, lv 2 = some (jI x2) → lv 4 = some (jI x) → ey (mm_xt L xs) 0 106 97 lv [] h r)) o) : ∀ lv : jL, lv 2 = some (jI x2) → lv 3 = some (jR x3) → lv 4 = some (jI x4) → lv 5 = some (jI x5) → ey (mm_xt L xs) 0 106 72 lv [] h r := by
  intro lv f2 f3 f4 f5
  unfold jd_106_s72 at e
  refine ey_iload (cd_106 rfl) f5 ?_
  refine ey_bipush (cd_106 rfl) (by decide) ?_
  by_cases q40 : 16 ≤ (jw x5)
  · rw [if_pos q40] at e
    refine ey_cge (cd_106 rfl) rfl rfl (show jw 16 = 16 from by decide) q40 ?_
    cases e
    exact K lv f2 f4
  · rw [if_neg q40] at e
    refine ey_nge (cd_106 rfl) rfl rfl (show jw 16 = 16 from by decide) q40 ?_
    refine ey_iload (cd_106 rfl) f4 ?_
    refine ey_aload_n (cd_106 rfl) f3 ?_
    refine ey_iload (cd_106 rfl) f5 ?_
    obtain ⟨a41, e42, e⟩ := jbind e
    refine ey_rs (s0 := [jI x5, jR x3, jI x4]) (s1 := [jI x5, jR (some a41), jI x4]) (by rw [e42]) ?_
    obtain ⟨v43, e44, e⟩ := jbind e
    refine ey_iald (cd_106 rfl) e44 ?_
    refine ey_abs (cd_106 rfl) mt_106 rfl (jsml_s rfl) ?_
    refine ey_iadd (cd_106 rfl) ?_
    obtain ⟨z45, e46, e⟩ := jbind e
    refine ey_rs (s0 := [jI (x4 + (if 0 ≤ jw v43 then v43 else -v43))]) (s1 := [jI z45]) (by rw [show (x4 + (if 0 ≤ jw v43 then v43 else -v43)) = z45 from Option.some.inj e46]) ?_
    refine ey_istore (cd_106 rfl) mt_106 rfl ?_
    refine ey_iinc (cd_106 rfl) mt_106 rfl f5 ?_
    refine ey_goto (cd_106 rfl) rfl ?_
    cases e
    exact K (jup (jup lv 4 (jI z45)) 5 (jI (x5 + 1))) f2 (jup_o rfl (jup_pr (lv := lv) (j := 3) (v := jI z45) (z := x3) f3)) (jup_pi (lv := (jup lv 4 (jI z45))) (j := 4) (v := jI (x5 + 1)) (z := z45) rfl) rfl
def jd_106_l72 (this : Nat) (x2 : Int) (x3 : Option Nat) (x4 : Int) (x5 : Int) (h : jH) : Option Int :=
  jlp (fun s : (Int × Int) => jd_106_s72 this x2 x3 s.1 s.2 h) jfu (x4, x5)
theorem jk_106_l72 {L : Nat} {xs : Nat → Int32} {this : Nat} {x2 : Int} {x3 : Option Nat} {x4 : Int} {x5 : Int} {h : jH} {x : Int} {r : mm_R} (e : jd_106_l72 this x2 x3 x4 x5 h = some x) (K : (∀ lv : jL, lv 2 = some (jI x2) → lv 4 = some (jI x) → ey (mm_xt L xs) 0 106 97 lv [] h r)) : ∀ lv : jL, lv 2 = some (jI x2) → lv 3 = some (jR x3) → lv 4 = some (jI x4) → lv 5 = some (jI x5) → ey (mm_xt L xs) 0 106 72 lv [] h r := by
  unfold jd_106_l72 at e
  exact jlp_ok2 (P := fun s => ∀ lv : jL, lv 2 = some (jI x2) → lv 3 = some (jR x3) → lv 4 = some (jI s.1) → lv 5 = some (jI s.2) → ey (mm_xt L xs) 0 106 72 lv [] h r) (Q := fun x => (∀ lv : jL, lv 2 = some (jI x2) → lv 4 = some (jI x) → ey (mm_xt L xs) 0 106 97 lv [] h r)) (fun s q hq hk => jk_106_s72 hq hk) jfu _ x e K
def jd_106 (this : Nat) (p0 : Option Nat) (h : jH) : Option (Int × jH) :=
  ((jgi h this 6 0).bind fun v1 => ((jgi h this 6 1).bind fun v3 => ((jna h 0 16).bind fun n5 => ((jd_106_l18 this p0 (v1 * v3) (some n5.1) 0 n5.2).bind fun x38 => ((jd_106_l72 this (v1 * v3) (some n5.1) 0 0 x38).bind fun x47 => some ((if (jw x47) ≤ (jw (v1 * v3)) then 0 else 1), x38))))))
set_option maxRecDepth 100000 in
theorem ok_106 {L : Nat} {xs : Nat → Int32} {this : Nat} {p0 : Option Nat} {h : jH} {o : (Int × jH)} (e : jd_106 this p0 h = some o) : mm_Runs (mm_xt L xs) 1 106 ([jR (some this), jR p0].map jcv) (jaH h) (.inl (some (jcv (jI o.1)), jaH o.2)) := by
  refine ey_run0 _ mt_106 (jsl_s rfl) ?_
  unfold jd_106 at e
  refine ey_aload_n (cd_106 rfl) rfl ?_
  obtain ⟨v1, e2, e⟩ := jbind e
  refine ey_getf_i (cd_106 rfl) mt_106 rfl rfl rfl e2 ?_
  refine ey_aload_n (cd_106 rfl) rfl ?_
  obtain ⟨v3, e4, e⟩ := jbind e
  refine ey_getf_i (cd_106 rfl) mt_106 rfl rfl rfl e4 ?_
  refine ey_imul (cd_106 rfl) ?_
  refine ey_istore_n (cd_106 rfl) mt_106 rfl ?_
  refine ey_bipush (cd_106 rfl) (by decide) ?_
  obtain ⟨n5, e6, e⟩ := jbind e
  refine ey_newarr (cd_106 rfl) (by decide) e6 ?_
  refine ey_astore_n (cd_106 rfl) mt_106 rfl ?_
  refine ey_iconst (cd_106 rfl) ?_
  refine ey_istore (cd_106 rfl) mt_106 rfl ?_
  obtain ⟨x38, e39, e⟩ := jbind e
  refine jk_106_l18 e39 ?_ (jup (jup (jup (jlf (jla 0 [jR (some this), jR p0])) 2 (jI (v1 * v3))) 3 (jR (some n5.1))) 4 (jI 0)) rfl (jup_o rfl (jup_o rfl (jup_pr (lv := (jlf (jla 0 [jR (some this), jR p0]))) (j := 1) (v := jI (v1 * v3)) (z := p0) rfl))) (jup_o rfl (jup_pi (lv := (jup (jlf (jla 0 [jR (some this), jR p0])) 2 (jI (v1 * v3)))) (j := 2) (v := jR (some n5.1)) (z := (v1 * v3)) rfl)) (jup_pr (lv := (jup (jup (jlf (jla 0 [jR (some this), jR p0])) 2 (jI (v1 * v3))) 3 (jR (some n5.1)))) (j := 3) (v := jI 0) (z := (some n5.1)) rfl) rfl
  intro lv g2 g3
  refine ey_iconst (cd_106 rfl) ?_
  refine ey_istore (cd_106 rfl) mt_106 rfl ?_
  refine ey_iconst (cd_106 rfl) ?_
  refine ey_istore (cd_106 rfl) mt_106 rfl ?_
  obtain ⟨x47, e48, e⟩ := jbind e
  refine jk_106_l72 e48 ?_ (jup (jup lv 4 (jI 0)) 5 (jI 0)) g2 (jup_o rfl (jup_pr (lv := lv) (j := 3) (v := jI 0) (z := (some n5.1)) g3)) (jup_pi (lv := (jup lv 4 (jI 0))) (j := 4) (v := jI 0) (z := 0) rfl) rfl
  intro lv g2 g4
  refine ey_iload (cd_106 rfl) g4 ?_
  refine ey_iload_n (cd_106 rfl) g2 ?_
  have K49 : ∀ lv : jL, ey (mm_xt L xs) 0 106 108 lv [jI (if (jw x47) ≤ (jw (v1 * v3)) then 0 else 1)] x38 (.inl (some (jcv (jI o.1)), jaH o.2)) := by
    intro lv 
    cases e
    exact ey_retz (cd_106 rfl) mt_106 rfl (jbo_ite (Or.inl rfl) (Or.inr rfl))
  by_cases q50 : (jw x47) ≤ (jw (v1 * v3))
  · refine ey_cle (cd_106 rfl) rfl rfl rfl q50 ?_
    refine ey_iconst (cd_106 rfl) ?_
    exact ey_rs (s0 := [jI 0]) (s1 := [jI (if (jw x47) ≤ (jw (v1 * v3)) then 0 else 1)]) (by rw [show ((if (jw x47) ≤ (jw (v1 * v3)) then 0 else 1) : Int) = 0 from (if_pos q50)]) (K49 lv )
  · refine ey_nle (cd_106 rfl) rfl rfl rfl q50 ?_
    refine ey_iconst (cd_106 rfl) ?_
    refine ey_goto (cd_106 rfl) rfl ?_
    exact ey_rs (s0 := [jI 1]) (s1 := [jI (if (jw x47) ≤ (jw (v1 * v3)) then 0 else 1)]) (by rw [show ((if (jw x47) ≤ (jw (v1 * v3)) then 0 else 1) : Int) = 1 from (if_neg q50)]) (K49 lv )
theorem cd_108 {pc : Nat} {i : Instr × Nat} (h : mm_lk mm_c108 pc = some i) : mm_cd 108 pc = some i := h
theorem mt_108 : mm_MT 108 = (6, 12, some .int, 5, 0, []) := rfl
def jd_108_s55 (this : Nat) (x1 : Option Nat) (x3 : Int) (x4 : Int) (x5 : Int) (x7 : Int) (x8 : Int) (x10 : Int) (x9 : Int) (x11 : Int) (h : jH) : Option ((Int × Int) ⊕ Int) :=
  (if (jw (x7 + 8)) ≤ (jw x11) then some (.inr x9) else ((jgr h this 6 2).bind fun r10 => ((jgi h this 6 0).bind fun v12 => ((r10).bind fun a14 => ((jai h a14 ((x10 * v12) + x11)).bind fun v16 => ((x1).bind fun a18 => ((jck h a18 6).bind fun u20 => ((jd_103 a18 0 (jw (x11 + x3)) (jw (x10 + x4)) h).bind fun v22 => ((some (x9 + (if 0 ≤ jw (v16 - v22) then (v16 - v22) else -(v16 - v22)))).bind fun z24 => some (.inl (z24, (x11 + 1))))))))))))
set_option maxRecDepth 100000 in
theorem jk_108_s55 {L : Nat} {xs : Nat → Int32} {this : Nat} {x1 : Option Nat} {x3 : Int} {x4 : Int} {x5 : Int} {x7 : Int} {x8 : Int} {x10 : Int} {x9 : Int} {x11 : Int} {h : jH} {o : ((Int × Int) ⊕ Int)} {r : mm_R} (e : jd_108_s55 this x1 x3 x4 x5 x7 x8 x10 x9 x11 h = some o) (K : jsm (fun s => (∀ lv : jL, lv 0 = some (jR (some this)) → lv 1 = some (jR x1) → lv 3 = some (jI x3) → lv 4 = some (jI x4) → lv 5 = some (jI x5) → lv 7 = some (jI x7) → lv 8 = some (jI x8) → lv 9 = some (jI s.1) → lv 10 = some (jI x10) → lv 11 = some (jI s.2) → ey (mm_xt L xs) 2 108 55 lv [] h r)) (fun x => (∀ lv : jL, lv 0 = some (jR (some this)) → lv 1 = some (jR x1) → lv 3 = some (jI x3) → lv 4 = some (jI x4) → lv 5 = some (jI x5) → lv 7 = some (jI x7) → lv 8 = some (jI x8) → lv 9 = some (jI x) → lv 10 = some (jI x10) → ey (mm_xt L xs) 2 108 111 lv [] h r)) o) : ∀ lv : jL, lv 0 = some (jR (some this)) → lv 1 = some (jR x1) → lv 3 = some (jI x3) → lv 4 = some (jI x4) → lv 5 = some (jI x5) → lv 7 = some (jI x7) → lv 8 = some (jI x8) → lv 9 = some (jI x9) → lv 10 = some (jI x10) → lv 11 = some (jI x11) → ey (mm_xt L xs) 2 108 55 lv [] h r := by
  intro lv f0 f1 f3 f4 f5 f7 f8 f9 f10 f11
  unfold jd_108_s55 at e
  refine ey_iload (cd_108 rfl) f11 ?_
  refine ey_iload (cd_108 rfl) f7 ?_
  refine ey_bipush (cd_108 rfl) (by decide) ?_
  refine ey_iadd (cd_108 rfl) ?_
  by_cases q9 : (jw (x7 + 8)) ≤ (jw x11)
  · rw [if_pos q9] at e
    refine ey_cge (cd_108 rfl) rfl rfl rfl q9 ?_
    cases e
    exact K lv f0 f1 f3 f4 f5 f7 f8 f9 f10
  · rw [if_neg q9] at e
    refine ey_nge (cd_108 rfl) rfl rfl rfl q9 ?_
    refine ey_iload (cd_108 rfl) f9 ?_
    refine ey_aload_n (cd_108 rfl) f0 ?_
    obtain ⟨r10, e11, e⟩ := jbind e
    refine ey_getf_r (cd_108 rfl) mt_108 rfl rfl rfl e11 ?_
    refine ey_iload (cd_108 rfl) f10 ?_
    refine ey_aload_n (cd_108 rfl) f0 ?_
    obtain ⟨v12, e13, e⟩ := jbind e
    refine ey_getf_i (cd_108 rfl) mt_108 rfl rfl rfl e13 ?_
    refine ey_imul (cd_108 rfl) ?_
    refine ey_iload (cd_108 rfl) f11 ?_
    refine ey_iadd (cd_108 rfl) ?_
    obtain ⟨a14, e15, e⟩ := jbind e
    refine ey_rs (s0 := [jI ((x10 * v12) + x11), jR r10, jI x9]) (s1 := [jI ((x10 * v12) + x11), jR (some a14), jI x9]) (by rw [e15]) ?_
    obtain ⟨v16, e17, e⟩ := jbind e
    refine ey_iald (cd_108 rfl) e17 ?_
    refine ey_aload_n (cd_108 rfl) f1 ?_
    refine ey_iconst (cd_108 rfl) ?_
    refine ey_iload (cd_108 rfl) f11 ?_
    refine ey_iload_n (cd_108 rfl) f3 ?_
    refine ey_iadd (cd_108 rfl) ?_
    refine ey_i2l (cd_108 rfl) ?_
    refine ey_iload (cd_108 rfl) f10 ?_
    refine ey_iload (cd_108 rfl) f4 ?_
    refine ey_iadd (cd_108 rfl) ?_
    refine ey_i2l (cd_108 rfl) ?_
    obtain ⟨a18, e19, e⟩ := jbind e
    refine ey_rs (s0 := [jJ (jw (x10 + x4)), jJ (jw (x11 + x3)), jI 0, jR x1, jI v16, jI x9]) (s1 := [jJ (jw (x10 + x4)), jJ (jw (x11 + x3)), jI 0, jR (some a18), jI v16, jI x9]) (by rw [e19]) ?_
    obtain ⟨u20, e21, e⟩ := jbind e
    obtain ⟨v22, e23, e⟩ := jbind e
    refine ey_cv (s0 := [jJ (jw (x10 + x4)), jJ (jw (x11 + x3)), jI 0, jR (some a18), jI v16, jI x9]) (s1 := [jI v16, jI x9]) (st' := [jI v22, jI v16, jI x9]) (cd_108 rfl) mt_108 mt_103 rfl rfl rfl (jck_s e21) rfl (jsml_s rfl) rfl (ok_103 e23) ?_
    refine ey_isub (cd_108 rfl) ?_
    refine ey_abs (cd_108 rfl) mt_108 rfl (jsml_s rfl) ?_
    refine ey_iadd (cd_108 rfl) ?_
    obtain ⟨z24, e25, e⟩ := jbind e
    refine ey_rs (s0 := [jI (x9 + (if 0 ≤ jw (v16 - v22) then (v16 - v22) else -(v16 - v22)))]) (s1 := [jI z24]) (by rw [show (x9 + (if 0 ≤ jw (v16 - v22) then (v16 - v22) else -(v16 - v22))) = z24 from Option.some.inj e25]) ?_
    refine ey_istore (cd_108 rfl) mt_108 rfl ?_
    refine ey_iinc (cd_108 rfl) mt_108 rfl f11 ?_
    refine ey_goto (cd_108 rfl) rfl ?_
    cases e
    exact K (jup (jup lv 9 (jI z24)) 11 (jI (x11 + 1))) f0 f1 f3 f4 f5 f7 (jup_o rfl (jup_pi (lv := lv) (j := 8) (v := jI z24) (z := x8) f8)) rfl (jup_pi (lv := (jup lv 9 (jI z24))) (j := 10) (v := jI (x11 + 1)) (z := x10) f10) rfl
def jd_108_l55 (this : Nat) (x1 : Option Nat) (x3 : Int) (x4 : Int) (x5 : Int) (x7 : Int) (x8 : Int) (x10 : Int) (x9 : Int) (x11 : Int) (h : jH) : Option Int :=
  jlp (fun s : (Int × Int) => jd_108_s55 this x1 x3 x4 x5 x7 x8 x10 s.1 s.2 h) jfu (x9, x11)
theorem jk_108_l55 {L : Nat} {xs : Nat → Int32} {this : Nat} {x1 : Option Nat} {x3 : Int} {x4 : Int} {x5 : Int} {x7 : Int} {x8 : Int} {x10 : Int} {x9 : Int} {x11 : Int} {h : jH} {x : Int} {r : mm_R} (e : jd_108_l55 this x1 x3 x4 x5 x7 x8 x10 x9 x11 h = some x) (K : (∀ lv : jL, lv 0 = some (jR (some this)) → lv 1 = some (jR x1) → lv 3 = some (jI x3) → lv 4 = some (jI x4) → lv 5 = some (jI x5) → lv 7 = some (jI x7) → lv 8 = some (jI x8) → lv 9 = some (jI x) → lv 10 = some (jI x10) → ey (mm_xt L xs) 2 108 111 lv [] h r)) : ∀ lv : jL, lv 0 = some (jR (some this)) → lv 1 = some (jR x1) → lv 3 = some (jI x3) → lv 4 = some (jI x4) → lv 5 = some (jI x5) → lv 7 = some (jI x7) → lv 8 = some (jI x8) → lv 9 = some (jI x9) → lv 10 = some (jI x10) → lv 11 = some (jI x11) → ey (mm_xt L xs) 2 108 55 lv [] h r := by
  unfold jd_108_l55 at e
  exact jlp_ok2 (P := fun s => ∀ lv : jL, lv 0 = some (jR (some this)) → lv 1 = some (jR x1) → lv 3 = some (jI x3) → lv 4 = some (jI x4) → lv 5 = some (jI x5) → lv 7 = some (jI x7) → lv 8 = some (jI x8) → lv 9 = some (jI s.1) → lv 10 = some (jI x10) → lv 11 = some (jI s.2) → ey (mm_xt L xs) 2 108 55 lv [] h r) (Q := fun x => (∀ lv : jL, lv 0 = some (jR (some this)) → lv 1 = some (jR x1) → lv 3 = some (jI x3) → lv 4 = some (jI x4) → lv 5 = some (jI x5) → lv 7 = some (jI x7) → lv 8 = some (jI x8) → lv 9 = some (jI x) → lv 10 = some (jI x10) → ey (mm_xt L xs) 2 108 111 lv [] h r)) (fun s q hq hk => jk_108_s55 hq hk) jfu _ x e K
def jd_108_s34 (this : Nat) (x1 : Option Nat) (x3 : Int) (x4 : Int) (x5 : Int) (x7 : Int) (x8 : Int) (x9 : Int) (x10 : Int) (h : jH) : Option ((Int × Int) ⊕ Int) :=
  (if (jw (x8 + 8)) ≤ (jw x10) then some (.inr x9) else (if (jw x5) < (jw x9) then some (.inr x9) else ((jd_108_l55 this x1 x3 x4 x5 x7 x8 x10 x9 x7 h).bind fun x26 => some (.inl (x26, (x10 + 1))))))
set_option maxRecDepth 100000 in
theorem jk_108_s34 {L : Nat} {xs : Nat → Int32} {this : Nat} {x1 : Option Nat} {x3 : Int} {x4 : Int} {x5 : Int} {x7 : Int} {x8 : Int} {x9 : Int} {x10 : Int} {h : jH} {o : ((Int × Int) ⊕ Int)} {r : mm_R} (e : jd_108_s34 this x1 x3 x4 x5 x7 x8 x9 x10 h = some o) (K : jsm (fun s => (∀ lv : jL, lv 0 = some (jR (some this)) → lv 1 = some (jR x1) → lv 3 = some (jI x3) → lv 4 = some (jI x4) → lv 5 = some (jI x5) → lv 7 = some (jI x7) → lv 8 = some (jI x8) → lv 9 = some (jI s.1) → lv 10 = some (jI s.2) → ey (mm_xt L xs) 2 108 34 lv [] h r)) (fun x => (∀ lv : jL, lv 9 = some (jI x) → ey (mm_xt L xs) 2 108 117 lv [] h r)) o) : ∀ lv : jL, lv 0 = some (jR (some this)) → lv 1 = some (jR x1) → lv 3 = some (jI x3) → lv 4 = some (jI x4) → lv 5 = some (jI x5) → lv 7 = some (jI x7) → lv 8 = some (jI x8) → lv 9 = some (jI x9) → lv 10 = some (jI x10) → ey (mm_xt L xs) 2 108 34 lv [] h r := by
  intro lv f0 f1 f3 f4 f5 f7 f8 f9 f10
  unfold jd_108_s34 at e
  refine ey_iload (cd_108 rfl) f10 ?_
  refine ey_iload (cd_108 rfl) f8 ?_
  refine ey_bipush (cd_108 rfl) (by decide) ?_
  refine ey_iadd (cd_108 rfl) ?_
  by_cases q7 : (jw (x8 + 8)) ≤ (jw x10)
  · rw [if_pos q7] at e
    refine ey_cge (cd_108 rfl) rfl rfl rfl q7 ?_
    cases e
    exact K lv f9
  · rw [if_neg q7] at e
    refine ey_nge (cd_108 rfl) rfl rfl rfl q7 ?_
    refine ey_iload (cd_108 rfl) f9 ?_
    refine ey_iload (cd_108 rfl) f5 ?_
    by_cases q8 : (jw x5) < (jw x9)
    · rw [if_pos q8] at e
      refine ey_cgt (cd_108 rfl) rfl rfl rfl q8 ?_
      cases e
      exact K lv f9
    · rw [if_neg q8] at e
      refine ey_ngt (cd_108 rfl) rfl rfl rfl q8 ?_
      refine ey_iload (cd_108 rfl) f7 ?_
      refine ey_istore (cd_108 rfl) mt_108 rfl ?_
      obtain ⟨x26, e27, e⟩ := jbind e
      refine jk_108_l55 e27 ?_ (jup lv 11 (jI x7)) f0 f1 f3 f4 f5 f7 f8 f9 (jup_pi (lv := lv) (j := 10) (v := jI x7) (z := x10) f10) rfl
      intro lv g0 g1 g3 g4 g5 g7 g8 g9 g10
      refine ey_iinc (cd_108 rfl) mt_108 rfl g10 ?_
      refine ey_goto (cd_108 rfl) rfl ?_
      cases e
      exact K (jup lv 10 (jI (x10 + 1))) g0 g1 g3 g4 g5 g7 g8 (jup_pi (lv := lv) (j := 9) (v := jI (x10 + 1)) (z := x26) g9) rfl
def jd_108_l34 (this : Nat) (x1 : Option Nat) (x3 : Int) (x4 : Int) (x5 : Int) (x7 : Int) (x8 : Int) (x9 : Int) (x10 : Int) (h : jH) : Option Int :=
  jlp (fun s : (Int × Int) => jd_108_s34 this x1 x3 x4 x5 x7 x8 s.1 s.2 h) jfu (x9, x10)
theorem jk_108_l34 {L : Nat} {xs : Nat → Int32} {this : Nat} {x1 : Option Nat} {x3 : Int} {x4 : Int} {x5 : Int} {x7 : Int} {x8 : Int} {x9 : Int} {x10 : Int} {h : jH} {x : Int} {r : mm_R} (e : jd_108_l34 this x1 x3 x4 x5 x7 x8 x9 x10 h = some x) (K : (∀ lv : jL, lv 9 = some (jI x) → ey (mm_xt L xs) 2 108 117 lv [] h r)) : ∀ lv : jL, lv 0 = some (jR (some this)) → lv 1 = some (jR x1) → lv 3 = some (jI x3) → lv 4 = some (jI x4) → lv 5 = some (jI x5) → lv 7 = some (jI x7) → lv 8 = some (jI x8) → lv 9 = some (jI x9) → lv 10 = some (jI x10) → ey (mm_xt L xs) 2 108 34 lv [] h r := by
  unfold jd_108_l34 at e
  exact jlp_ok2 (P := fun s => ∀ lv : jL, lv 0 = some (jR (some this)) → lv 1 = some (jR x1) → lv 3 = some (jI x3) → lv 4 = some (jI x4) → lv 5 = some (jI x5) → lv 7 = some (jI x7) → lv 8 = some (jI x8) → lv 9 = some (jI s.1) → lv 10 = some (jI s.2) → ey (mm_xt L xs) 2 108 34 lv [] h r) (Q := fun x => (∀ lv : jL, lv 9 = some (jI x) → ey (mm_xt L xs) 2 108 117 lv [] h r)) (fun s q hq hk => jk_108_s34 hq hk) jfu _ x e K
def jd_108 (this : Nat) (p0 : Option Nat) (p1 : Int) (p2 : Int) (p3 : Int) (p4 : Int) (h : jH) : Option Int :=
  ((jgi h this 6 0).bind fun v1 => ((jnz (jdiv v1 8)).bind fun u3 => ((jnz (jdiv v1 8)).bind fun u5 => ((jd_108_l34 this p0 p2 p3 p4 ((jrem p1 (jdiv v1 8)) * 8) ((jdiv p1 (jdiv v1 8)) * 8) 0 ((jdiv p1 (jdiv v1 8)) * 8) h).bind fun x28 => some x28))))
set_option maxRecDepth 100000 in
theorem ok_108 {L : Nat} {xs : Nat → Int32} {this : Nat} {p0 : Option Nat} {p1 : Int} {p2 : Int} {p3 : Int} {p4 : Int} {h : jH} {o : Int} (e : jd_108 this p0 p1 p2 p3 p4 h = some o) : mm_Runs (mm_xt L xs) 3 108 ([jR (some this), jR p0, jI p1, jI p2, jI p3, jI p4].map jcv) (jaH h) (.inl (some (jcv (jI o)), jaH h)) := by
  refine ey_run0 _ mt_108 (jsl_s rfl) ?_
  unfold jd_108 at e
  refine ey_aload_n (cd_108 rfl) rfl ?_
  obtain ⟨v1, e2, e⟩ := jbind e
  refine ey_getf_i (cd_108 rfl) mt_108 rfl rfl rfl e2 ?_
  refine ey_bipush (cd_108 rfl) (by decide) ?_
  refine ey_idiv (cd_108 rfl) (by decide) ?_
  refine ey_istore (cd_108 rfl) mt_108 rfl ?_
  refine ey_iload_n (cd_108 rfl) rfl ?_
  refine ey_iload (cd_108 rfl) rfl ?_
  obtain ⟨u3, e4, e⟩ := jbind e
  refine ey_irem (cd_108 rfl) (jnz_s e4) ?_
  refine ey_bipush (cd_108 rfl) (by decide) ?_
  refine ey_imul (cd_108 rfl) ?_
  refine ey_istore (cd_108 rfl) mt_108 rfl ?_
  refine ey_iload_n (cd_108 rfl) rfl ?_
  refine ey_iload (cd_108 rfl) (jup_pi (lv := (jup (jlf (jla 0 [jR (some this), jR p0, jI p1, jI p2, jI p3, jI p4])) 6 (jI (jdiv v1 8)))) (j := 6) (v := jI ((jrem p1 (jdiv v1 8)) * 8)) (z := (jdiv v1 8)) rfl) ?_
  obtain ⟨u5, e6, e⟩ := jbind e
  refine ey_idiv (cd_108 rfl) (jnz_s e6) ?_
  refine ey_bipush (cd_108 rfl) (by decide) ?_
  refine ey_imul (cd_108 rfl) ?_
  refine ey_istore (cd_108 rfl) mt_108 rfl ?_
  refine ey_iconst (cd_108 rfl) ?_
  refine ey_istore (cd_108 rfl) mt_108 rfl ?_
  refine ey_iload (cd_108 rfl) (jup_pi (lv := (jup (jup (jup (jlf (jla 0 [jR (some this), jR p0, jI p1, jI p2, jI p3, jI p4])) 6 (jI (jdiv v1 8))) 7 (jI ((jrem p1 (jdiv v1 8)) * 8))) 8 (jI ((jdiv p1 (jdiv v1 8)) * 8)))) (j := 8) (v := jI 0) (z := ((jdiv p1 (jdiv v1 8)) * 8)) rfl) ?_
  refine ey_istore (cd_108 rfl) mt_108 rfl ?_
  obtain ⟨x28, e29, e⟩ := jbind e
  refine jk_108_l34 e29 ?_ (jup (jup (jup (jup (jup (jlf (jla 0 [jR (some this), jR p0, jI p1, jI p2, jI p3, jI p4])) 6 (jI (jdiv v1 8))) 7 (jI ((jrem p1 (jdiv v1 8)) * 8))) 8 (jI ((jdiv p1 (jdiv v1 8)) * 8))) 9 (jI 0)) 10 (jI ((jdiv p1 (jdiv v1 8)) * 8))) rfl rfl rfl rfl (jup_o rfl (jup_o rfl (jup_o rfl (jup_o rfl (jup_pi (lv := (jlf (jla 0 [jR (some this), jR p0, jI p1, jI p2, jI p3, jI p4]))) (j := 5) (v := jI (jdiv v1 8)) (z := p4) rfl))))) (jup_o rfl (jup_o rfl (jup_pi (lv := (jup (jup (jlf (jla 0 [jR (some this), jR p0, jI p1, jI p2, jI p3, jI p4])) 6 (jI (jdiv v1 8))) 7 (jI ((jrem p1 (jdiv v1 8)) * 8)))) (j := 7) (v := jI ((jdiv p1 (jdiv v1 8)) * 8)) (z := ((jrem p1 (jdiv v1 8)) * 8)) rfl))) (jup_o rfl (jup_pi (lv := (jup (jup (jup (jlf (jla 0 [jR (some this), jR p0, jI p1, jI p2, jI p3, jI p4])) 6 (jI (jdiv v1 8))) 7 (jI ((jrem p1 (jdiv v1 8)) * 8))) 8 (jI ((jdiv p1 (jdiv v1 8)) * 8)))) (j := 8) (v := jI 0) (z := ((jdiv p1 (jdiv v1 8)) * 8)) rfl)) (jup_pi (lv := (jup (jup (jup (jup (jlf (jla 0 [jR (some this), jR p0, jI p1, jI p2, jI p3, jI p4])) 6 (jI (jdiv v1 8))) 7 (jI ((jrem p1 (jdiv v1 8)) * 8))) 8 (jI ((jdiv p1 (jdiv v1 8)) * 8))) 9 (jI 0))) (j := 9) (v := jI ((jdiv p1 (jdiv v1 8)) * 8)) (z := 0) rfl) rfl
  intro lv g9
  refine ey_iload (cd_108 rfl) g9 ?_
  cases e
  exact ey_reti (cd_108 rfl) mt_108 rfl
theorem cd_107 {pc : Nat} {i : Instr × Nat} (h : mm_lk mm_c107 pc = some i) : mm_cd 107 pc = some i := h
theorem mt_107 : mm_MT 107 = (6, 12, some .int, 3, 0, []) := rfl
def jd_107_b111 (this : Nat) (x1 : Option Nat) (x2 : Int) (x3 : Int) (x4 : Int) (x5 : Int) (x6 : Int) (x7 : Int) (x8 : Int) (h : jH) : Option ((Int × Int × Int × Int) ⊕ (Int × Int × Int)) :=
  some (.inl (x4, x5, x6, (x8 + 1)))
set_option maxRecDepth 100000 in
theorem jk_107_b111 {L : Nat} {xs : Nat → Int32} {this : Nat} {x1 : Option Nat} {x2 : Int} {x3 : Int} {x4 : Int} {x5 : Int} {x6 : Int} {x7 : Int} {x8 : Int} {h : jH} {o : ((Int × Int × Int × Int) ⊕ (Int × Int × Int))} {r : mm_R} (e : jd_107_b111 this x1 x2 x3 x4 x5 x6 x7 x8 h = some o) (K : jsm (fun s => (∀ lv : jL, lv 0 = some (jR (some this)) → lv 1 = some (jR x1) → lv 2 = some (jI x2) → lv 3 = some (jI x3) → lv 4 = some (jI s.1) → lv 5 = some (jI s.2.1) → lv 6 = some (jI s.2.2.1) → lv 7 = some (jI x7) → lv 8 = some (jI s.2.2.2) → ey (mm_xt L xs) 3 107 32 lv [] h r)) (fun x => (∀ lv : jL, lv 0 = some (jR (some this)) → lv 1 = some (jR x1) → lv 2 = some (jI x2) → lv 3 = some (jI x3) → lv 4 = some (jI x.1) → lv 5 = some (jI x.2.1) → lv 6 = some (jI x.2.2) → lv 7 = some (jI x7) → ey (mm_xt L xs) 3 107 117 lv [] h r)) o) : ∀ lv : jL, lv 0 = some (jR (some this)) → lv 1 = some (jR x1) → lv 2 = some (jI x2) → lv 3 = some (jI x3) → lv 4 = some (jI x4) → lv 5 = some (jI x5) → lv 6 = some (jI x6) → lv 7 = some (jI x7) → lv 8 = some (jI x8) → ey (mm_xt L xs) 3 107 111 lv [] h r := by
  intro lv f0 f1 f2 f3 f4 f5 f6 f7 f8
  unfold jd_107_b111 at e
  refine ey_iinc (cd_107 rfl) mt_107 rfl f8 ?_
  refine ey_goto (cd_107 rfl) rfl ?_
  cases e
  exact K (jup lv 8 (jI (x8 + 1))) f0 f1 f2 f3 f4 f5 f6 (jup_pi (lv := lv) (j := 7) (v := jI (x8 + 1)) (z := x7) f7) rfl
def jd_107_s32 (this : Nat) (x1 : Option Nat) (x2 : Int) (x3 : Int) (x7 : Int) (x4 : Int) (x5 : Int) (x6 : Int) (x8 : Int) (h : jH) : Option ((Int × Int × Int × Int) ⊕ (Int × Int × Int)) :=
  (if 4 < (jw x8) then some (.inr (x4, x5, x6)) else ((jck h this 6).bind fun u7 => ((jd_108 this x1 x2 x8 x7 x6 h).bind fun v9 => ((some ((if 0 ≤ jw x8 then x8 else -x8) + (if 0 ≤ jw x7 then x7 else -x7))).bind fun z11 => ((some ((if 0 ≤ jw x4 then x4 else -x4) + (if 0 ≤ jw x5 then x5 else -x5))).bind fun z13 => jd_107_b111 this x1 x2 x3 (if (jw v9) < (jw x6) then x8 else (if (jw v9) = (jw x6) then (if (jw z13) ≤ (jw z11) then x4 else x8) else x4)) (if (jw v9) < (jw x6) then x7 else (if (jw v9) = (jw x6) then (if (jw z13) ≤ (jw z11) then x5 else x7) else x5)) (if (jw v9) < (jw x6) then v9 else (if (jw v9) = (jw x6) then (if (jw z13) ≤ (jw z11) then x6 else v9) else x6)) x7 x8 h)))))
set_option maxRecDepth 100000 in
theorem jk_107_s32 {L : Nat} {xs : Nat → Int32} {this : Nat} {x1 : Option Nat} {x2 : Int} {x3 : Int} {x7 : Int} {x4 : Int} {x5 : Int} {x6 : Int} {x8 : Int} {h : jH} {o : ((Int × Int × Int × Int) ⊕ (Int × Int × Int))} {r : mm_R} (e : jd_107_s32 this x1 x2 x3 x7 x4 x5 x6 x8 h = some o) (K : jsm (fun s => (∀ lv : jL, lv 0 = some (jR (some this)) → lv 1 = some (jR x1) → lv 2 = some (jI x2) → lv 3 = some (jI x3) → lv 4 = some (jI s.1) → lv 5 = some (jI s.2.1) → lv 6 = some (jI s.2.2.1) → lv 7 = some (jI x7) → lv 8 = some (jI s.2.2.2) → ey (mm_xt L xs) 3 107 32 lv [] h r)) (fun x => (∀ lv : jL, lv 0 = some (jR (some this)) → lv 1 = some (jR x1) → lv 2 = some (jI x2) → lv 3 = some (jI x3) → lv 4 = some (jI x.1) → lv 5 = some (jI x.2.1) → lv 6 = some (jI x.2.2) → lv 7 = some (jI x7) → ey (mm_xt L xs) 3 107 117 lv [] h r)) o) : ∀ lv : jL, lv 0 = some (jR (some this)) → lv 1 = some (jR x1) → lv 2 = some (jI x2) → lv 3 = some (jI x3) → lv 4 = some (jI x4) → lv 5 = some (jI x5) → lv 6 = some (jI x6) → lv 7 = some (jI x7) → lv 8 = some (jI x8) → ey (mm_xt L xs) 3 107 32 lv [] h r := by
  intro lv f0 f1 f2 f3 f4 f5 f6 f7 f8
  unfold jd_107_s32 at e
  refine ey_iload (cd_107 rfl) f8 ?_
  refine ey_iconst (cd_107 rfl) ?_
  by_cases q6 : 4 < (jw x8)
  · rw [if_pos q6] at e
    refine ey_cgt (cd_107 rfl) rfl rfl (show jw 4 = 4 from by decide) q6 ?_
    cases e
    exact K lv f0 f1 f2 f3 f4 f5 f6 f7
  · rw [if_neg q6] at e
    refine ey_ngt (cd_107 rfl) rfl rfl (show jw 4 = 4 from by decide) q6 ?_
    refine ey_aload_n (cd_107 rfl) f0 ?_
    refine ey_aload_n (cd_107 rfl) f1 ?_
    refine ey_iload_n (cd_107 rfl) f2 ?_
    refine ey_iload (cd_107 rfl) f8 ?_
    refine ey_iload (cd_107 rfl) f7 ?_
    refine ey_iload (cd_107 rfl) f6 ?_
    obtain ⟨u7, e8, e⟩ := jbind e
    obtain ⟨v9, e10, e⟩ := jbind e
    refine ey_cv (s0 := [jI x6, jI x7, jI x8, jI x2, jR x1, jR (some this)]) (s1 := []) (st' := [jI v9]) (cd_107 rfl) mt_107 mt_108 rfl rfl rfl (jck_s e8) rfl (jsml_s rfl) rfl (ok_108 e10) ?_
    refine ey_istore (cd_107 rfl) mt_107 rfl ?_
    refine ey_iload (cd_107 rfl) (jup_pi (lv := lv) (j := 8) (v := jI v9) (z := x8) f8) ?_
    refine ey_abs (cd_107 rfl) mt_107 rfl (jsml_s rfl) ?_
    refine ey_iload (cd_107 rfl) f7 ?_
    refine ey_abs (cd_107 rfl) mt_107 rfl (jsml_s rfl) ?_
    refine ey_iadd (cd_107 rfl) ?_
    obtain ⟨z11, e12, e⟩ := jbind e
    refine ey_rs (s0 := [jI ((if 0 ≤ jw x8 then x8 else -x8) + (if 0 ≤ jw x7 then x7 else -x7))]) (s1 := [jI z11]) (by rw [show ((if 0 ≤ jw x8 then x8 else -x8) + (if 0 ≤ jw x7 then x7 else -x7)) = z11 from Option.some.inj e12]) ?_
    refine ey_istore (cd_107 rfl) mt_107 rfl ?_
    refine ey_iload (cd_107 rfl) f4 ?_
    refine ey_abs (cd_107 rfl) mt_107 rfl (jsml_s rfl) ?_
    refine ey_iload (cd_107 rfl) f5 ?_
    refine ey_abs (cd_107 rfl) mt_107 rfl (jsml_s rfl) ?_
    refine ey_iadd (cd_107 rfl) ?_
    obtain ⟨z13, e14, e⟩ := jbind e
    refine ey_rs (s0 := [jI ((if 0 ≤ jw x4 then x4 else -x4) + (if 0 ≤ jw x5 then x5 else -x5))]) (s1 := [jI z13]) (by rw [show ((if 0 ≤ jw x4 then x4 else -x4) + (if 0 ≤ jw x5 then x5 else -x5)) = z13 from Option.some.inj e14]) ?_
    refine ey_istore (cd_107 rfl) mt_107 rfl ?_
    refine ey_iload (cd_107 rfl) (jup_o rfl (jup_pi (lv := (jup lv 9 (jI v9))) (j := 9) (v := jI z11) (z := v9) rfl)) ?_
    refine ey_iload (cd_107 rfl) f6 ?_
    have K15 : ∀ lv : jL, lv 0 = some (jR (some this)) → lv 1 = some (jR x1) → lv 2 = some (jI x2) → lv 3 = some (jI x3) → lv 4 = some (jI (if (jw v9) < (jw x6) then x8 else (if (jw v9) = (jw x6) then (if (jw z13) ≤ (jw z11) then x4 else x8) else x4))) → lv 5 = some (jI (if (jw v9) < (jw x6) then x7 else (if (jw v9) = (jw x6) then (if (jw z13) ≤ (jw z11) then x5 else x7) else x5))) → lv 6 = some (jI (if (jw v9) < (jw x6) then v9 else (if (jw v9) = (jw x6) then (if (jw z13) ≤ (jw z11) then x6 else v9) else x6))) → lv 7 = some (jI x7) → lv 8 = some (jI x8) → ey (mm_xt L xs) 3 107 111 lv [] h r := by
      intro lv g0 g1 g2 g3 g4 g5 g6 g7 g8
      exact jk_107_b111 e K lv g0 g1 g2 g3 g4 g5 g6 g7 g8
    by_cases q16 : (jw v9) < (jw x6)
    · refine ey_clt (cd_107 rfl) rfl rfl rfl q16 ?_
      refine ey_iload (cd_107 rfl) (jup_o rfl (jup_pi (lv := (jup lv 9 (jI v9))) (j := 9) (v := jI z11) (z := v9) rfl)) ?_
      refine ey_istore (cd_107 rfl) mt_107 rfl ?_
      refine ey_iload (cd_107 rfl) (jup_o rfl (jup_o rfl (jup_o rfl (jup_pi (lv := lv) (j := 8) (v := jI v9) (z := x8) f8)))) ?_
      refine ey_istore (cd_107 rfl) mt_107 rfl ?_
      refine ey_iload (cd_107 rfl) f7 ?_
      refine ey_istore (cd_107 rfl) mt_107 rfl ?_
      exact K15 (jup (jup (jup (jup (jup (jup lv 9 (jI v9)) 10 (jI z11)) 11 (jI z13)) 6 (jI v9)) 4 (jI x8)) 5 (jI x7)) f0 f1 f2 (jup_o rfl (jup_pi (lv := (jup (jup (jup (jup lv 9 (jI v9)) 10 (jI z11)) 11 (jI z13)) 6 (jI v9))) (j := 3) (v := jI x8) (z := x3) f3)) (Eq.trans (show (jup (jup (jup (jup (jup (jup lv 9 (jI v9)) 10 (jI z11)) 11 (jI z13)) 6 (jI v9)) 4 (jI x8)) 5 (jI x7)) 4 = some (jI x8) from (jup_pi (lv := (jup (jup (jup (jup (jup lv 9 (jI v9)) 10 (jI z11)) 11 (jI z13)) 6 (jI v9)) 4 (jI x8))) (j := 4) (v := jI x7) (z := x8) rfl)) (congrArg (fun z => some (jI z)) (Eq.symm (if_pos q16)))) (Eq.trans (show (jup (jup (jup (jup (jup (jup lv 9 (jI v9)) 10 (jI z11)) 11 (jI z13)) 6 (jI v9)) 4 (jI x8)) 5 (jI x7)) 5 = some (jI x7) from rfl) (congrArg (fun z => some (jI z)) (Eq.symm (if_pos q16)))) (Eq.trans (show (jup (jup (jup (jup (jup (jup lv 9 (jI v9)) 10 (jI z11)) 11 (jI z13)) 6 (jI v9)) 4 (jI x8)) 5 (jI x7)) 6 = some (jI v9) from rfl) (congrArg (fun z => some (jI z)) (Eq.symm (if_pos q16)))) f7 (jup_o rfl (jup_o rfl (jup_o rfl (jup_o rfl (jup_o rfl (jup_pi (lv := lv) (j := 8) (v := jI v9) (z := x8) f8))))))
    · refine ey_nlt (cd_107 rfl) rfl rfl rfl q16 ?_
      refine ey_iload (cd_107 rfl) (jup_o rfl (jup_pi (lv := (jup lv 9 (jI v9))) (j := 9) (v := jI z11) (z := v9) rfl)) ?_
      refine ey_iload (cd_107 rfl) f6 ?_
      by_cases q17 : (jw v9) = (jw x6)
      · refine ey_nne (cd_107 rfl) rfl rfl rfl (fun w => w q17) ?_
        refine ey_iload (cd_107 rfl) (jup_pi (lv := (jup (jup lv 9 (jI v9)) 10 (jI z11))) (j := 10) (v := jI z13) (z := z11) rfl) ?_
        refine ey_iload (cd_107 rfl) rfl ?_
        by_cases q18 : (jw z13) ≤ (jw z11)
        · refine ey_cge (cd_107 rfl) rfl rfl rfl q18 ?_
          exact K15 (jup (jup (jup lv 9 (jI v9)) 10 (jI z11)) 11 (jI z13)) f0 f1 f2 f3 (Eq.trans (show (jup (jup (jup lv 9 (jI v9)) 10 (jI z11)) 11 (jI z13)) 4 = some (jI x4) from f4) (congrArg (fun z => some (jI z)) (Eq.symm ((if_neg q16).trans ((if_pos q17).trans (if_pos q18)))))) (Eq.trans (show (jup (jup (jup lv 9 (jI v9)) 10 (jI z11)) 11 (jI z13)) 5 = some (jI x5) from f5) (congrArg (fun z => some (jI z)) (Eq.symm ((if_neg q16).trans ((if_pos q17).trans (if_pos q18)))))) (Eq.trans (show (jup (jup (jup lv 9 (jI v9)) 10 (jI z11)) 11 (jI z13)) 6 = some (jI x6) from f6) (congrArg (fun z => some (jI z)) (Eq.symm ((if_neg q16).trans ((if_pos q17).trans (if_pos q18)))))) f7 (jup_o rfl (jup_o rfl (jup_pi (lv := lv) (j := 8) (v := jI v9) (z := x8) f8)))
        · refine ey_nge (cd_107 rfl) rfl rfl rfl q18 ?_
          refine ey_iload (cd_107 rfl) (jup_o rfl (jup_pi (lv := (jup lv 9 (jI v9))) (j := 9) (v := jI z11) (z := v9) rfl)) ?_
          refine ey_istore (cd_107 rfl) mt_107 rfl ?_
          refine ey_iload (cd_107 rfl) (jup_o rfl (jup_o rfl (jup_o rfl (jup_pi (lv := lv) (j := 8) (v := jI v9) (z := x8) f8)))) ?_
          refine ey_istore (cd_107 rfl) mt_107 rfl ?_
          refine ey_iload (cd_107 rfl) f7 ?_
          refine ey_istore (cd_107 rfl) mt_107 rfl ?_
          exact K15 (jup (jup (jup (jup (jup (jup lv 9 (jI v9)) 10 (jI z11)) 11 (jI z13)) 6 (jI v9)) 4 (jI x8)) 5 (jI x7)) f0 f1 f2 (jup_o rfl (jup_pi (lv := (jup (jup (jup (jup lv 9 (jI v9)) 10 (jI z11)) 11 (jI z13)) 6 (jI v9))) (j := 3) (v := jI x8) (z := x3) f3)) (Eq.trans (show (jup (jup (jup (jup (jup (jup lv 9 (jI v9)) 10 (jI z11)) 11 (jI z13)) 6 (jI v9)) 4 (jI x8)) 5 (jI x7)) 4 = some (jI x8) from (jup_pi (lv := (jup (jup (jup (jup (jup lv 9 (jI v9)) 10 (jI z11)) 11 (jI z13)) 6 (jI v9)) 4 (jI x8))) (j := 4) (v := jI x7) (z := x8) rfl)) (congrArg (fun z => some (jI z)) (Eq.symm ((if_neg q16).trans ((if_pos q17).trans (if_neg q18)))))) (Eq.trans (show (jup (jup (jup (jup (jup (jup lv 9 (jI v9)) 10 (jI z11)) 11 (jI z13)) 6 (jI v9)) 4 (jI x8)) 5 (jI x7)) 5 = some (jI x7) from rfl) (congrArg (fun z => some (jI z)) (Eq.symm ((if_neg q16).trans ((if_pos q17).trans (if_neg q18)))))) (Eq.trans (show (jup (jup (jup (jup (jup (jup lv 9 (jI v9)) 10 (jI z11)) 11 (jI z13)) 6 (jI v9)) 4 (jI x8)) 5 (jI x7)) 6 = some (jI v9) from rfl) (congrArg (fun z => some (jI z)) (Eq.symm ((if_neg q16).trans ((if_pos q17).trans (if_neg q18)))))) f7 (jup_o rfl (jup_o rfl (jup_o rfl (jup_o rfl (jup_o rfl (jup_pi (lv := lv) (j := 8) (v := jI v9) (z := x8) f8))))))
      · refine ey_cne (cd_107 rfl) rfl rfl rfl q17 ?_
        exact K15 (jup (jup (jup lv 9 (jI v9)) 10 (jI z11)) 11 (jI z13)) f0 f1 f2 f3 (Eq.trans (show (jup (jup (jup lv 9 (jI v9)) 10 (jI z11)) 11 (jI z13)) 4 = some (jI x4) from f4) (congrArg (fun z => some (jI z)) (Eq.symm ((if_neg q16).trans (if_neg q17))))) (Eq.trans (show (jup (jup (jup lv 9 (jI v9)) 10 (jI z11)) 11 (jI z13)) 5 = some (jI x5) from f5) (congrArg (fun z => some (jI z)) (Eq.symm ((if_neg q16).trans (if_neg q17))))) (Eq.trans (show (jup (jup (jup lv 9 (jI v9)) 10 (jI z11)) 11 (jI z13)) 6 = some (jI x6) from f6) (congrArg (fun z => some (jI z)) (Eq.symm ((if_neg q16).trans (if_neg q17))))) f7 (jup_o rfl (jup_o rfl (jup_pi (lv := lv) (j := 8) (v := jI v9) (z := x8) f8)))
def jd_107_l32 (this : Nat) (x1 : Option Nat) (x2 : Int) (x3 : Int) (x7 : Int) (x4 : Int) (x5 : Int) (x6 : Int) (x8 : Int) (h : jH) : Option (Int × Int × Int) :=
  jlp (fun s : (Int × Int × Int × Int) => jd_107_s32 this x1 x2 x3 x7 s.1 s.2.1 s.2.2.1 s.2.2.2 h) jfu (x4, x5, x6, x8)
theorem jk_107_l32 {L : Nat} {xs : Nat → Int32} {this : Nat} {x1 : Option Nat} {x2 : Int} {x3 : Int} {x7 : Int} {x4 : Int} {x5 : Int} {x6 : Int} {x8 : Int} {h : jH} {x : (Int × Int × Int)} {r : mm_R} (e : jd_107_l32 this x1 x2 x3 x7 x4 x5 x6 x8 h = some x) (K : (∀ lv : jL, lv 0 = some (jR (some this)) → lv 1 = some (jR x1) → lv 2 = some (jI x2) → lv 3 = some (jI x3) → lv 4 = some (jI x.1) → lv 5 = some (jI x.2.1) → lv 6 = some (jI x.2.2) → lv 7 = some (jI x7) → ey (mm_xt L xs) 3 107 117 lv [] h r)) : ∀ lv : jL, lv 0 = some (jR (some this)) → lv 1 = some (jR x1) → lv 2 = some (jI x2) → lv 3 = some (jI x3) → lv 4 = some (jI x4) → lv 5 = some (jI x5) → lv 6 = some (jI x6) → lv 7 = some (jI x7) → lv 8 = some (jI x8) → ey (mm_xt L xs) 3 107 32 lv [] h r := by
  unfold jd_107_l32 at e
  exact jlp_ok2 (P := fun s => ∀ lv : jL, lv 0 = some (jR (some this)) → lv 1 = some (jR x1) → lv 2 = some (jI x2) → lv 3 = some (jI x3) → lv 4 = some (jI s.1) → lv 5 = some (jI s.2.1) → lv 6 = some (jI s.2.2.1) → lv 7 = some (jI x7) → lv 8 = some (jI s.2.2.2) → ey (mm_xt L xs) 3 107 32 lv [] h r) (Q := fun x => (∀ lv : jL, lv 0 = some (jR (some this)) → lv 1 = some (jR x1) → lv 2 = some (jI x2) → lv 3 = some (jI x3) → lv 4 = some (jI x.1) → lv 5 = some (jI x.2.1) → lv 6 = some (jI x.2.2) → lv 7 = some (jI x7) → ey (mm_xt L xs) 3 107 117 lv [] h r)) (fun s q hq hk => jk_107_s32 hq hk) jfu _ x e K
def jd_107_s22 (this : Nat) (x1 : Option Nat) (x2 : Int) (x3 : Int) (x4 : Int) (x5 : Int) (x6 : Int) (x7 : Int) (h : jH) : Option ((Int × Int × Int × Int) ⊕ (Int × Int × Int)) :=
  (if 4 < (jw x7) then some (.inr (x4, x5, x6)) else ((jd_107_l32 this x1 x2 x3 x7 x4 x5 x6 (-4) h).bind fun x19 => some (.inl (x19.1, x19.2.1, x19.2.2, (x7 + 1)))))
set_option maxRecDepth 100000 in
theorem jk_107_s22 {L : Nat} {xs : Nat → Int32} {this : Nat} {x1 : Option Nat} {x2 : Int} {x3 : Int} {x4 : Int} {x5 : Int} {x6 : Int} {x7 : Int} {h : jH} {o : ((Int × Int × Int × Int) ⊕ (Int × Int × Int))} {r : mm_R} (e : jd_107_s22 this x1 x2 x3 x4 x5 x6 x7 h = some o) (K : jsm (fun s => (∀ lv : jL, lv 0 = some (jR (some this)) → lv 1 = some (jR x1) → lv 2 = some (jI x2) → lv 3 = some (jI x3) → lv 4 = some (jI s.1) → lv 5 = some (jI s.2.1) → lv 6 = some (jI s.2.2.1) → lv 7 = some (jI s.2.2.2) → ey (mm_xt L xs) 3 107 22 lv [] h r)) (fun x => (∀ lv : jL, lv 3 = some (jI x3) → lv 4 = some (jI x.1) → lv 5 = some (jI x.2.1) → lv 6 = some (jI x.2.2) → ey (mm_xt L xs) 3 107 123 lv [] h r)) o) : ∀ lv : jL, lv 0 = some (jR (some this)) → lv 1 = some (jR x1) → lv 2 = some (jI x2) → lv 3 = some (jI x3) → lv 4 = some (jI x4) → lv 5 = some (jI x5) → lv 6 = some (jI x6) → lv 7 = some (jI x7) → ey (mm_xt L xs) 3 107 22 lv [] h r := by
  intro lv f0 f1 f2 f3 f4 f5 f6 f7
  unfold jd_107_s22 at e
  refine ey_iload (cd_107 rfl) f7 ?_
  refine ey_iconst (cd_107 rfl) ?_
  by_cases q5 : 4 < (jw x7)
  · rw [if_pos q5] at e
    refine ey_cgt (cd_107 rfl) rfl rfl (show jw 4 = 4 from by decide) q5 ?_
    cases e
    exact K lv f3 f4 f5 f6
  · rw [if_neg q5] at e
    refine ey_ngt (cd_107 rfl) rfl rfl (show jw 4 = 4 from by decide) q5 ?_
    refine ey_bipush (cd_107 rfl) (by decide) ?_
    refine ey_istore (cd_107 rfl) mt_107 rfl ?_
    obtain ⟨x19, e20, e⟩ := jbind e
    refine jk_107_l32 e20 ?_ (jup lv 8 (jI (-4))) f0 f1 f2 f3 f4 f5 f6 (jup_pi (lv := lv) (j := 7) (v := jI (-4)) (z := x7) f7) rfl
    intro lv g0 g1 g2 g3 g4 g5 g6 g7
    refine ey_iinc (cd_107 rfl) mt_107 rfl g7 ?_
    refine ey_goto (cd_107 rfl) rfl ?_
    cases e
    exact K (jup lv 7 (jI (x7 + 1))) g0 g1 g2 g3 g4 g5 (jup_pi (lv := lv) (j := 6) (v := jI (x7 + 1)) (z := x19.2.2) g6) rfl
def jd_107_l22 (this : Nat) (x1 : Option Nat) (x2 : Int) (x3 : Int) (x4 : Int) (x5 : Int) (x6 : Int) (x7 : Int) (h : jH) : Option (Int × Int × Int) :=
  jlp (fun s : (Int × Int × Int × Int) => jd_107_s22 this x1 x2 x3 s.1 s.2.1 s.2.2.1 s.2.2.2 h) jfu (x4, x5, x6, x7)
theorem jk_107_l22 {L : Nat} {xs : Nat → Int32} {this : Nat} {x1 : Option Nat} {x2 : Int} {x3 : Int} {x4 : Int} {x5 : Int} {x6 : Int} {x7 : Int} {h : jH} {x : (Int × Int × Int)} {r : mm_R} (e : jd_107_l22 this x1 x2 x3 x4 x5 x6 x7 h = some x) (K : (∀ lv : jL, lv 3 = some (jI x3) → lv 4 = some (jI x.1) → lv 5 = some (jI x.2.1) → lv 6 = some (jI x.2.2) → ey (mm_xt L xs) 3 107 123 lv [] h r)) : ∀ lv : jL, lv 0 = some (jR (some this)) → lv 1 = some (jR x1) → lv 2 = some (jI x2) → lv 3 = some (jI x3) → lv 4 = some (jI x4) → lv 5 = some (jI x5) → lv 6 = some (jI x6) → lv 7 = some (jI x7) → ey (mm_xt L xs) 3 107 22 lv [] h r := by
  unfold jd_107_l22 at e
  exact jlp_ok2 (P := fun s => ∀ lv : jL, lv 0 = some (jR (some this)) → lv 1 = some (jR x1) → lv 2 = some (jI x2) → lv 3 = some (jI x3) → lv 4 = some (jI s.1) → lv 5 = some (jI s.2.1) → lv 6 = some (jI s.2.2.1) → lv 7 = some (jI s.2.2.2) → ey (mm_xt L xs) 3 107 22 lv [] h r) (Q := fun x => (∀ lv : jL, lv 3 = some (jI x3) → lv 4 = some (jI x.1) → lv 5 = some (jI x.2.1) → lv 6 = some (jI x.2.2) → ey (mm_xt L xs) 3 107 123 lv [] h r)) (fun s q hq hk => jk_107_s22 hq hk) jfu _ x e K
def jd_107_b144 (this : Nat) (y0 : Int) (h : jH) : Option Int :=
  some y0
set_option maxRecDepth 100000 in
theorem jk_107_b144 {L : Nat} {xs : Nat → Int32} {this : Nat} {y0 : Int} {h : jH} {o : Int} (e : jd_107_b144 this y0 h = some o) : ∀ lv : jL, ey (mm_xt L xs) 3 107 144 lv [jI y0] h (.inl (some (jcv (jI o)), jaH h)) := by
  intro lv 
  unfold jd_107_b144 at e
  cases e
  exact ey_reti (cd_107 rfl) mt_107 rfl
def jd_107 (this : Nat) (p0 : Option Nat) (p1 : Int) (p2 : Int) (h : jH) : Option Int :=
  ((jck h this 6).bind fun u1 => ((jd_108 this p0 p1 0 0 2147483647 h).bind fun v3 => ((jd_107_l22 this p0 p1 p2 0 0 v3 (-4) h).bind fun x21 => jd_107_b144 this (if (jw p2) = 0 then x21.1 else (if (jw p2) = 1 then x21.2.1 else x21.2.2)) h)))
set_option maxRecDepth 100000 in
theorem ok_107 {L : Nat} {xs : Nat → Int32} {this : Nat} {p0 : Option Nat} {p1 : Int} {p2 : Int} {h : jH} {o : Int} (e : jd_107 this p0 p1 p2 h = some o) : mm_Runs (mm_xt L xs) 4 107 ([jR (some this), jR p0, jI p1, jI p2].map jcv) (jaH h) (.inl (some (jcv (jI o)), jaH h)) := by
  refine ey_run0 _ mt_107 (jsl_s rfl) ?_
  unfold jd_107 at e
  refine ey_iconst (cd_107 rfl) ?_
  refine ey_istore (cd_107 rfl) mt_107 rfl ?_
  refine ey_iconst (cd_107 rfl) ?_
  refine ey_istore (cd_107 rfl) mt_107 rfl ?_
  refine ey_aload_n (cd_107 rfl) rfl ?_
  refine ey_aload_n (cd_107 rfl) rfl ?_
  refine ey_iload_n (cd_107 rfl) rfl ?_
  refine ey_iconst (cd_107 rfl) ?_
  refine ey_iconst (cd_107 rfl) ?_
  refine ey_ldc (z := 2147483647) (cd_107 rfl) mt_107 rfl (by decide) ?_
  obtain ⟨u1, e2, e⟩ := jbind e
  obtain ⟨v3, e4, e⟩ := jbind e
  refine ey_cv (s0 := [jI 2147483647, jI 0, jI 0, jI p1, jR p0, jR (some this)]) (s1 := []) (st' := [jI v3]) (cd_107 rfl) mt_107 mt_108 rfl rfl rfl (jck_s e2) rfl (jsml_s rfl) rfl (ok_108 e4) ?_
  refine ey_istore (cd_107 rfl) mt_107 rfl ?_
  refine ey_bipush (cd_107 rfl) (by decide) ?_
  refine ey_istore (cd_107 rfl) mt_107 rfl ?_
  obtain ⟨x21, e22, e⟩ := jbind e
  refine jk_107_l22 e22 ?_ (jup (jup (jup (jup (jlf (jla 0 [jR (some this), jR p0, jI p1, jI p2])) 4 (jI 0)) 5 (jI 0)) 6 (jI v3)) 7 (jI (-4))) rfl rfl rfl (jup_o rfl (jup_o rfl (jup_o rfl (jup_pi (lv := (jlf (jla 0 [jR (some this), jR p0, jI p1, jI p2]))) (j := 3) (v := jI 0) (z := p2) rfl)))) (jup_o rfl (jup_o rfl (jup_pi (lv := (jup (jlf (jla 0 [jR (some this), jR p0, jI p1, jI p2])) 4 (jI 0))) (j := 4) (v := jI 0) (z := 0) rfl))) (jup_o rfl (jup_pi (lv := (jup (jup (jlf (jla 0 [jR (some this), jR p0, jI p1, jI p2])) 4 (jI 0)) 5 (jI 0))) (j := 5) (v := jI v3) (z := 0) rfl)) (jup_pi (lv := (jup (jup (jup (jlf (jla 0 [jR (some this), jR p0, jI p1, jI p2])) 4 (jI 0)) 5 (jI 0)) 6 (jI v3))) (j := 6) (v := jI (-4)) (z := v3) rfl) rfl
  intro lv g3 g4 g5 g6
  refine ey_iload_n (cd_107 rfl) g3 ?_
  have K23 : ∀ lv : jL, ey (mm_xt L xs) 3 107 144 lv [jI (if (jw p2) = 0 then x21.1 else (if (jw p2) = 1 then x21.2.1 else x21.2.2))] h (.inl (some (jcv (jI o)), jaH h)) := by
    intro lv 
    exact jk_107_b144 e lv 
  by_cases q24 : (jw p2) = 0
  · refine ey_yne (cd_107 rfl) rfl rfl (fun w => w q24) ?_
    refine ey_iload (cd_107 rfl) g4 ?_
    refine ey_goto (cd_107 rfl) rfl ?_
    exact ey_rs (s0 := [jI x21.1]) (s1 := [jI (if (jw p2) = 0 then x21.1 else (if (jw p2) = 1 then x21.2.1 else x21.2.2))]) (by rw [show ((if (jw p2) = 0 then x21.1 else (if (jw p2) = 1 then x21.2.1 else x21.2.2)) : Int) = x21.1 from (if_pos q24)]) (K23 lv )
  · refine ey_zne (cd_107 rfl) rfl rfl q24 ?_
    refine ey_iload_n (cd_107 rfl) g3 ?_
    refine ey_iconst (cd_107 rfl) ?_
    by_cases q25 : (jw p2) = 1
    · refine ey_nne (cd_107 rfl) rfl rfl (show jw 1 = 1 from by decide) (fun w => w q25) ?_
      refine ey_iload (cd_107 rfl) g5 ?_
      refine ey_goto (cd_107 rfl) rfl ?_
      exact ey_rs (s0 := [jI x21.2.1]) (s1 := [jI (if (jw p2) = 0 then x21.1 else (if (jw p2) = 1 then x21.2.1 else x21.2.2))]) (by rw [show ((if (jw p2) = 0 then x21.1 else (if (jw p2) = 1 then x21.2.1 else x21.2.2)) : Int) = x21.2.1 from ((if_neg q24).trans (if_pos q25))]) (K23 lv )
    · refine ey_cne (cd_107 rfl) rfl rfl (show jw 1 = 1 from by decide) q25 ?_
      refine ey_iload (cd_107 rfl) g6 ?_
      exact ey_rs (s0 := [jI x21.2.2]) (s1 := [jI (if (jw p2) = 0 then x21.1 else (if (jw p2) = 1 then x21.2.1 else x21.2.2))]) (by rw [show ((if (jw p2) = 0 then x21.1 else (if (jw p2) = 1 then x21.2.1 else x21.2.2)) : Int) = x21.2.2 from ((if_neg q24).trans (if_neg q25))]) (K23 lv )
theorem cd_109 {pc : Nat} {i : Instr × Nat} (h : mm_lk mm_c109 pc = some i) : mm_cd 109 pc = some i := h
theorem mt_109 : mm_MT 109 = (7, 1, none, 0, 2, []) := rfl
def jd_109 (this : Nat)  (h : jH) : Option jH :=
  ((jpr h this 7 0 none).bind fun h1 => ((jpi h1 this 7 1 0).bind fun h3 => ((jpi h3 this 7 2 0).bind fun h5 => ((jpi h5 this 7 3 0).bind fun h7 => ((jpi h7 this 7 4 0).bind fun h9 => ((jpi h9 this 7 5 0).bind fun h11 => ((jpi h11 this 7 6 (-1)).bind fun h13 => ((jpi h13 this 7 7 0).bind fun h15 => ((jpr h15 this 7 8 none).bind fun h17 => ((jpi h17 this 7 9 1).bind fun h19 => ((jpi h19 this 7 10 0).bind fun h21 => ((jpi h21 this 7 11 0).bind fun h23 => some h23))))))))))))
set_option maxRecDepth 100000 in
theorem ok_109 {L : Nat} {xs : Nat → Int32} {this : Nat}  {h : jH} {o : jH} (e : jd_109 this  h = some o) : mm_Runs (mm_xt L xs) 1 109 ([jR (some this)].map jcv) (jaH h) (.inl (none, jaH o)) := by
  refine ey_run0 _ mt_109 (jsl_s rfl) ?_
  unfold jd_109 at e
  refine ey_aload_n (cd_109 rfl) rfl ?_
  refine ey_oini (cd_109 rfl) mt_109 rfl (jsml_s rfl) ?_
  refine ey_aload_n (cd_109 rfl) rfl ?_
  refine ey_null (cd_109 rfl) ?_
  obtain ⟨h1, e2, e⟩ := jbind e
  refine ey_putf_r (cd_109 rfl) mt_109 rfl rfl rfl e2 ?_
  refine ey_aload_n (cd_109 rfl) rfl ?_
  refine ey_iconst (cd_109 rfl) ?_
  obtain ⟨h3, e4, e⟩ := jbind e
  refine ey_putf_i (cd_109 rfl) mt_109 rfl rfl rfl e4 ?_
  refine ey_aload_n (cd_109 rfl) rfl ?_
  refine ey_iconst (cd_109 rfl) ?_
  obtain ⟨h5, e6, e⟩ := jbind e
  refine ey_putf_i (cd_109 rfl) mt_109 rfl rfl rfl e6 ?_
  refine ey_aload_n (cd_109 rfl) rfl ?_
  refine ey_iconst (cd_109 rfl) ?_
  obtain ⟨h7, e8, e⟩ := jbind e
  refine ey_putf_i (cd_109 rfl) mt_109 rfl rfl rfl e8 ?_
  refine ey_aload_n (cd_109 rfl) rfl ?_
  refine ey_iconst (cd_109 rfl) ?_
  obtain ⟨h9, e10, e⟩ := jbind e
  refine ey_putf_z (cd_109 rfl) mt_109 rfl rfl rfl (Or.inl rfl) e10 ?_
  refine ey_aload_n (cd_109 rfl) rfl ?_
  refine ey_iconst (cd_109 rfl) ?_
  obtain ⟨h11, e12, e⟩ := jbind e
  refine ey_putf_i (cd_109 rfl) mt_109 rfl rfl rfl e12 ?_
  refine ey_aload_n (cd_109 rfl) rfl ?_
  refine ey_iconst (cd_109 rfl) ?_
  obtain ⟨h13, e14, e⟩ := jbind e
  refine ey_putf_i (cd_109 rfl) mt_109 rfl rfl rfl e14 ?_
  refine ey_aload_n (cd_109 rfl) rfl ?_
  refine ey_iconst (cd_109 rfl) ?_
  obtain ⟨h15, e16, e⟩ := jbind e
  refine ey_putf_i (cd_109 rfl) mt_109 rfl rfl rfl e16 ?_
  refine ey_aload_n (cd_109 rfl) rfl ?_
  refine ey_null (cd_109 rfl) ?_
  obtain ⟨h17, e18, e⟩ := jbind e
  refine ey_putf_r (cd_109 rfl) mt_109 rfl rfl rfl e18 ?_
  refine ey_aload_n (cd_109 rfl) rfl ?_
  refine ey_iconst (cd_109 rfl) ?_
  obtain ⟨h19, e20, e⟩ := jbind e
  refine ey_putf_i (cd_109 rfl) mt_109 rfl rfl rfl e20 ?_
  refine ey_aload_n (cd_109 rfl) rfl ?_
  refine ey_iconst (cd_109 rfl) ?_
  obtain ⟨h21, e22, e⟩ := jbind e
  refine ey_putf_i (cd_109 rfl) mt_109 rfl rfl rfl e22 ?_
  refine ey_aload_n (cd_109 rfl) rfl ?_
  refine ey_iconst (cd_109 rfl) ?_
  obtain ⟨h23, e24, e⟩ := jbind e
  refine ey_putf_i (cd_109 rfl) mt_109 rfl rfl rfl e24 ?_
  cases e
  exact ey_retv (cd_109 rfl) mt_109 rfl
theorem cd_110 {pc : Nat} {i : Instr × Nat} (h : mm_lk mm_c110 pc = some i) : mm_cd 110 pc = some i := h
theorem mt_110 : mm_MT 110 = (7, 5, none, 4, 0, []) := rfl
def jd_110_b74 (this : Nat)  (h : jH) : Option jH :=
  some h
set_option maxRecDepth 100000 in
theorem jk_110_b74 {L : Nat} {xs : Nat → Int32} {this : Nat}  {h : jH} {o : jH} (e : jd_110_b74 this  h = some o) : ∀ lv : jL, ey (mm_xt L xs) 1 110 74 lv [] h (.inl (none, jaH o)) := by
  intro lv 
  unfold jd_110_b74 at e
  cases e
  exact ey_retv (cd_110 rfl) mt_110 rfl
def jd_110 (this : Nat) (p0 : Option Nat) (p1 : Int) (p2 : Int) (p3 : Int) (h : jH) : Option jH :=
  ((jpr h this 7 0 p0).bind fun h1 => ((jpi h1 this 7 1 p1).bind fun h3 => ((jpi h3 this 7 9 p2).bind fun h5 => ((jpi h5 this 7 10 p3).bind fun h7 => ((jpi h7 this 7 2 0).bind fun h9 => ((jpi h9 this 7 11 0).bind fun h11 => ((jpi h11 this 7 3 0).bind fun h13 => ((jpi h13 this 7 4 0).bind fun h15 => ((jpi h15 this 7 5 0).bind fun h17 => ((jpi h17 this 7 6 (-1)).bind fun h19 => ((jpi h19 this 7 7 0).bind fun h21 => ((jgr h21 this 7 8).bind fun r23 => (if r23 = none then ((jnw h21 6).bind fun n26 => ((jd_94 n26.1 n26.2).bind fun h28 => ((jpr h28 this 7 8 (some n26.1)).bind fun h30 => jd_110_b74 this  h30))) else jd_110_b74 this  h21)))))))))))))
set_option maxRecDepth 100000 in
theorem ok_110 {L : Nat} {xs : Nat → Int32} {this : Nat} {p0 : Option Nat} {p1 : Int} {p2 : Int} {p3 : Int} {h : jH} {o : jH} (e : jd_110 this p0 p1 p2 p3 h = some o) : mm_Runs (mm_xt L xs) 2 110 ([jR (some this), jR p0, jI p1, jI p2, jI p3].map jcv) (jaH h) (.inl (none, jaH o)) := by
  refine ey_run0 _ mt_110 (jsl_s rfl) ?_
  unfold jd_110 at e
  refine ey_aload_n (cd_110 rfl) rfl ?_
  refine ey_aload_n (cd_110 rfl) rfl ?_
  obtain ⟨h1, e2, e⟩ := jbind e
  refine ey_putf_r (cd_110 rfl) mt_110 rfl rfl rfl e2 ?_
  refine ey_aload_n (cd_110 rfl) rfl ?_
  refine ey_iload_n (cd_110 rfl) rfl ?_
  obtain ⟨h3, e4, e⟩ := jbind e
  refine ey_putf_i (cd_110 rfl) mt_110 rfl rfl rfl e4 ?_
  refine ey_aload_n (cd_110 rfl) rfl ?_
  refine ey_iload_n (cd_110 rfl) rfl ?_
  obtain ⟨h5, e6, e⟩ := jbind e
  refine ey_putf_i (cd_110 rfl) mt_110 rfl rfl rfl e6 ?_
  refine ey_aload_n (cd_110 rfl) rfl ?_
  refine ey_iload (cd_110 rfl) rfl ?_
  obtain ⟨h7, e8, e⟩ := jbind e
  refine ey_putf_i (cd_110 rfl) mt_110 rfl rfl rfl e8 ?_
  refine ey_aload_n (cd_110 rfl) rfl ?_
  refine ey_iconst (cd_110 rfl) ?_
  obtain ⟨h9, e10, e⟩ := jbind e
  refine ey_putf_i (cd_110 rfl) mt_110 rfl rfl rfl e10 ?_
  refine ey_aload_n (cd_110 rfl) rfl ?_
  refine ey_iconst (cd_110 rfl) ?_
  obtain ⟨h11, e12, e⟩ := jbind e
  refine ey_putf_i (cd_110 rfl) mt_110 rfl rfl rfl e12 ?_
  refine ey_aload_n (cd_110 rfl) rfl ?_
  refine ey_iconst (cd_110 rfl) ?_
  obtain ⟨h13, e14, e⟩ := jbind e
  refine ey_putf_i (cd_110 rfl) mt_110 rfl rfl rfl e14 ?_
  refine ey_aload_n (cd_110 rfl) rfl ?_
  refine ey_iconst (cd_110 rfl) ?_
  obtain ⟨h15, e16, e⟩ := jbind e
  refine ey_putf_z (cd_110 rfl) mt_110 rfl rfl rfl (Or.inl rfl) e16 ?_
  refine ey_aload_n (cd_110 rfl) rfl ?_
  refine ey_iconst (cd_110 rfl) ?_
  obtain ⟨h17, e18, e⟩ := jbind e
  refine ey_putf_i (cd_110 rfl) mt_110 rfl rfl rfl e18 ?_
  refine ey_aload_n (cd_110 rfl) rfl ?_
  refine ey_iconst (cd_110 rfl) ?_
  obtain ⟨h19, e20, e⟩ := jbind e
  refine ey_putf_i (cd_110 rfl) mt_110 rfl rfl rfl e20 ?_
  refine ey_aload_n (cd_110 rfl) rfl ?_
  refine ey_iconst (cd_110 rfl) ?_
  obtain ⟨h21, e22, e⟩ := jbind e
  refine ey_putf_i (cd_110 rfl) mt_110 rfl rfl rfl e22 ?_
  refine ey_aload_n (cd_110 rfl) rfl ?_
  obtain ⟨r23, e24, e⟩ := jbind e
  refine ey_getf_r (cd_110 rfl) mt_110 rfl rfl rfl e24 ?_
  by_cases q25 : r23 = none
  · rw [if_pos q25] at e
    refine ey_rs (s0 := [jR r23]) (s1 := [jR none]) (by rw [q25]) ?_
    refine ey_ifnonnull_n (cd_110 rfl) rfl ?_
    refine ey_aload_n (cd_110 rfl) rfl ?_
    obtain ⟨n26, e27, e⟩ := jbind e
    refine ey_new (cd_110 rfl) mt_110 rfl rfl jdf_6 e27 ?_
    refine ey_dup (cd_110 rfl) rfl ?_
    obtain ⟨h28, e29, e⟩ := jbind e
    refine ey_ci (s0 := [jR (some n26.1), jR (some n26.1), jR (some this)]) (s1 := [jR (some n26.1), jR (some this)]) (st' := [jR (some n26.1), jR (some this)]) (cd_110 rfl) mt_110 mt_94 rfl (by decide) rfl rfl (jsml_s rfl) rfl (ok_94 e29) ?_
    obtain ⟨h30, e31, e⟩ := jbind e
    refine ey_putf_r (cd_110 rfl) mt_110 rfl rfl rfl e31 ?_
    exact jk_110_b74 e (jlf (jla 0 [jR (some this), jR p0, jI p1, jI p2, jI p3])) 
  · rw [if_neg q25] at e
    obtain ⟨w32, w32e⟩ := Option.ne_none_iff_exists'.mp q25
    refine ey_rs (s0 := [jR r23]) (s1 := [jR (some w32)]) (by rw [w32e]) ?_
    refine ey_ifnonnull_s (cd_110 rfl) rfl ?_
    exact jk_110_b74 e (jlf (jla 0 [jR (some this), jR p0, jI p1, jI p2, jI p3])) 
theorem cd_111 {pc : Nat} {i : Instr × Nat} (h : mm_lk mm_c111 pc = some i) : mm_cd 111 pc = some i := h
theorem mt_111 : mm_MT 111 = (7, 2, none, 1, 0, []) := rfl
def jd_111 (this : Nat) (p0 : Int) (h : jH) : Option jH :=
  ((jgr h this 7 0).bind fun r1 => ((r1).bind fun a3 => ((jgr h a3 2 11).bind fun r5 => ((jgr h this 7 0).bind fun r7 => ((jgr h this 7 0).bind fun r9 => ((r9).bind fun a11 => ((jgr h a11 2 12).bind fun r13 => ((r13).bind fun a15 => ((jai h a15 p0).bind fun v17 => ((r7).bind fun a19 => ((jck h a19 2).bind fun u21 => ((jd_37 a19 v17 h).bind fun v23 => ((r5).bind fun a25 => ((jai h a25 v23).bind fun v27 => ((jpi h this 7 2 v27).bind fun h29 => ((jgi h29 this 7 2).bind fun v31 => ((jpi h29 this 7 11 v31).bind fun h33 => ((jpi h33 this 7 3 p0).bind fun h35 => ((jpi h35 this 7 4 0).bind fun h37 => some h37)))))))))))))))))))
set_option maxRecDepth 100000 in
theorem ok_111 {L : Nat} {xs : Nat → Int32} {this : Nat} {p0 : Int} {h : jH} {o : jH} (e : jd_111 this p0 h = some o) : mm_Runs (mm_xt L xs) 2 111 ([jR (some this), jI p0].map jcv) (jaH h) (.inl (none, jaH o)) := by
  refine ey_run0 _ mt_111 (jsl_s rfl) ?_
  unfold jd_111 at e
  refine ey_aload_n (cd_111 rfl) rfl ?_
  refine ey_aload_n (cd_111 rfl) rfl ?_
  obtain ⟨r1, e2, e⟩ := jbind e
  refine ey_getf_r (cd_111 rfl) mt_111 rfl rfl rfl e2 ?_
  obtain ⟨a3, e4, e⟩ := jbind e
  refine ey_rs (s0 := [jR r1, jR (some this)]) (s1 := [jR (some a3), jR (some this)]) (by rw [e4]) ?_
  obtain ⟨r5, e6, e⟩ := jbind e
  refine ey_getf_r (cd_111 rfl) mt_111 rfl rfl rfl e6 ?_
  refine ey_aload_n (cd_111 rfl) rfl ?_
  obtain ⟨r7, e8, e⟩ := jbind e
  refine ey_getf_r (cd_111 rfl) mt_111 rfl rfl rfl e8 ?_
  refine ey_aload_n (cd_111 rfl) rfl ?_
  obtain ⟨r9, e10, e⟩ := jbind e
  refine ey_getf_r (cd_111 rfl) mt_111 rfl rfl rfl e10 ?_
  obtain ⟨a11, e12, e⟩ := jbind e
  refine ey_rs (s0 := [jR r9, jR r7, jR r5, jR (some this)]) (s1 := [jR (some a11), jR r7, jR r5, jR (some this)]) (by rw [e12]) ?_
  obtain ⟨r13, e14, e⟩ := jbind e
  refine ey_getf_r (cd_111 rfl) mt_111 rfl rfl rfl e14 ?_
  refine ey_iload_n (cd_111 rfl) rfl ?_
  obtain ⟨a15, e16, e⟩ := jbind e
  refine ey_rs (s0 := [jI p0, jR r13, jR r7, jR r5, jR (some this)]) (s1 := [jI p0, jR (some a15), jR r7, jR r5, jR (some this)]) (by rw [e16]) ?_
  obtain ⟨v17, e18, e⟩ := jbind e
  refine ey_iald (cd_111 rfl) e18 ?_
  obtain ⟨a19, e20, e⟩ := jbind e
  refine ey_rs (s0 := [jI v17, jR r7, jR r5, jR (some this)]) (s1 := [jI v17, jR (some a19), jR r5, jR (some this)]) (by rw [e20]) ?_
  obtain ⟨u21, e22, e⟩ := jbind e
  obtain ⟨v23, e24, e⟩ := jbind e
  refine ey_cv (s0 := [jI v17, jR (some a19), jR r5, jR (some this)]) (s1 := [jR r5, jR (some this)]) (st' := [jI v23, jR r5, jR (some this)]) (cd_111 rfl) mt_111 mt_37 rfl rfl rfl (jck_s e22) rfl (jsml_s rfl) rfl (ok_37 e24) ?_
  obtain ⟨a25, e26, e⟩ := jbind e
  refine ey_rs (s0 := [jI v23, jR r5, jR (some this)]) (s1 := [jI v23, jR (some a25), jR (some this)]) (by rw [e26]) ?_
  obtain ⟨v27, e28, e⟩ := jbind e
  refine ey_iald (cd_111 rfl) e28 ?_
  obtain ⟨h29, e30, e⟩ := jbind e
  refine ey_putf_i (cd_111 rfl) mt_111 rfl rfl rfl e30 ?_
  refine ey_aload_n (cd_111 rfl) rfl ?_
  refine ey_aload_n (cd_111 rfl) rfl ?_
  obtain ⟨v31, e32, e⟩ := jbind e
  refine ey_getf_i (cd_111 rfl) mt_111 rfl rfl rfl e32 ?_
  obtain ⟨h33, e34, e⟩ := jbind e
  refine ey_putf_i (cd_111 rfl) mt_111 rfl rfl rfl e34 ?_
  refine ey_aload_n (cd_111 rfl) rfl ?_
  refine ey_iload_n (cd_111 rfl) rfl ?_
  obtain ⟨h35, e36, e⟩ := jbind e
  refine ey_putf_i (cd_111 rfl) mt_111 rfl rfl rfl e36 ?_
  refine ey_aload_n (cd_111 rfl) rfl ?_
  refine ey_iconst (cd_111 rfl) ?_
  obtain ⟨h37, e38, e⟩ := jbind e
  refine ey_putf_z (cd_111 rfl) mt_111 rfl rfl rfl (Or.inl rfl) e38 ?_
  cases e
  exact ey_retv (cd_111 rfl) mt_111 rfl
theorem cd_112 {pc : Nat} {i : Instr × Nat} (h : mm_lk mm_c112 pc = some i) : mm_cd 112 pc = some i := h
theorem mt_112 : mm_MT 112 = (7, 1, some .int, 0, 0, []) := rfl
def jd_112_b83 (this : Nat) (y0 : Int) (h : jH) : Option (Int × jH) :=
  ((jbc y0).bind fun u32 => ((jpi h this 7 4 y0).bind fun h34 => ((jgb h34 this 7 4).bind fun v36 => (if (jw v36) = 0 then some ((-2), h34) else ((jgi h34 this 7 2).bind fun v39 => ((jgr h34 this 7 0).bind fun r41 => ((jgr h34 this 7 0).bind fun r43 => ((r43).bind fun a45 => ((jgr h34 a45 2 12).bind fun r47 => ((jgi h34 this 7 3).bind fun v49 => ((r47).bind fun a51 => ((jai h34 a51 v49).bind fun v53 => ((r41).bind fun a55 => ((jck h34 a55 2).bind fun u57 => ((jd_42 a55 v53 h34).bind fun v59 => (if (jw v59) ≤ (jw v39) then ((jgi h34 this 7 3).bind fun v62 => ((jpi h34 this 7 6 v62).bind fun h64 => ((jgi h64 this 7 3).bind fun v66 => ((jpi h64 this 7 3 (v66 + 1)).bind fun h68 => ((jgi h68 this 7 6).bind fun v70 => some (v70, h68)))))) else ((jgi h34 this 7 5).bind fun v72 => ((jpi h34 this 7 5 (v72 + 1)).bind fun h74 => some ((-1), h74)))))))))))))))))))
set_option maxRecDepth 100000 in
theorem jk_112_b83 {L : Nat} {xs : Nat → Int32} {this : Nat} {y0 : Int} {h : jH} {o : (Int × jH)} (e : jd_112_b83 this y0 h = some o) : ∀ lv : jL, lv 0 = some (jR (some this)) → ey (mm_xt L xs) 1 112 83 lv [jI y0, jR (some this)] h (.inl (some (jcv (jI o.1)), jaH o.2)) := by
  intro lv f0
  unfold jd_112_b83 at e
  obtain ⟨u32, e33, e⟩ := jbind e
  obtain ⟨h34, e35, e⟩ := jbind e
  refine ey_putf_z (cd_112 rfl) mt_112 rfl rfl rfl (jbc_s e33) e35 ?_
  refine ey_aload_n (cd_112 rfl) f0 ?_
  obtain ⟨v36, e37, e⟩ := jbind e
  refine ey_getf_z (cd_112 rfl) mt_112 rfl rfl rfl e37 ?_
  by_cases q38 : (jw v36) = 0
  · rw [if_pos q38] at e
    refine ey_yne (cd_112 rfl) rfl rfl (fun w => w q38) ?_
    refine ey_bipush (cd_112 rfl) (by decide) ?_
    cases e
    exact ey_reti (cd_112 rfl) mt_112 rfl
  · rw [if_neg q38] at e
    refine ey_zne (cd_112 rfl) rfl rfl q38 ?_
    refine ey_aload_n (cd_112 rfl) f0 ?_
    obtain ⟨v39, e40, e⟩ := jbind e
    refine ey_getf_i (cd_112 rfl) mt_112 rfl rfl rfl e40 ?_
    refine ey_aload_n (cd_112 rfl) f0 ?_
    obtain ⟨r41, e42, e⟩ := jbind e
    refine ey_getf_r (cd_112 rfl) mt_112 rfl rfl rfl e42 ?_
    refine ey_aload_n (cd_112 rfl) f0 ?_
    obtain ⟨r43, e44, e⟩ := jbind e
    refine ey_getf_r (cd_112 rfl) mt_112 rfl rfl rfl e44 ?_
    obtain ⟨a45, e46, e⟩ := jbind e
    refine ey_rs (s0 := [jR r43, jR r41, jI v39]) (s1 := [jR (some a45), jR r41, jI v39]) (by rw [e46]) ?_
    obtain ⟨r47, e48, e⟩ := jbind e
    refine ey_getf_r (cd_112 rfl) mt_112 rfl rfl rfl e48 ?_
    refine ey_aload_n (cd_112 rfl) f0 ?_
    obtain ⟨v49, e50, e⟩ := jbind e
    refine ey_getf_i (cd_112 rfl) mt_112 rfl rfl rfl e50 ?_
    obtain ⟨a51, e52, e⟩ := jbind e
    refine ey_rs (s0 := [jI v49, jR r47, jR r41, jI v39]) (s1 := [jI v49, jR (some a51), jR r41, jI v39]) (by rw [e52]) ?_
    obtain ⟨v53, e54, e⟩ := jbind e
    refine ey_iald (cd_112 rfl) e54 ?_
    obtain ⟨a55, e56, e⟩ := jbind e
    refine ey_rs (s0 := [jI v53, jR r41, jI v39]) (s1 := [jI v53, jR (some a55), jI v39]) (by rw [e56]) ?_
    obtain ⟨u57, e58, e⟩ := jbind e
    obtain ⟨v59, e60, e⟩ := jbind e
    refine ey_cv (s0 := [jI v53, jR (some a55), jI v39]) (s1 := [jI v39]) (st' := [jI v59, jI v39]) (cd_112 rfl) mt_112 mt_42 rfl rfl rfl (jck_s e58) rfl (jsml_s rfl) rfl (ok_42 e60) ?_
    by_cases q61 : (jw v59) ≤ (jw v39)
    · rw [if_pos q61] at e
      refine ey_cge (cd_112 rfl) rfl rfl rfl q61 ?_
      refine ey_aload_n (cd_112 rfl) f0 ?_
      refine ey_aload_n (cd_112 rfl) f0 ?_
      obtain ⟨v62, e63, e⟩ := jbind e
      refine ey_getf_i (cd_112 rfl) mt_112 rfl rfl rfl e63 ?_
      obtain ⟨h64, e65, e⟩ := jbind e
      refine ey_putf_i (cd_112 rfl) mt_112 rfl rfl rfl e65 ?_
      refine ey_aload_n (cd_112 rfl) f0 ?_
      refine ey_dup (cd_112 rfl) rfl ?_
      obtain ⟨v66, e67, e⟩ := jbind e
      refine ey_getf_i (cd_112 rfl) mt_112 rfl rfl rfl e67 ?_
      refine ey_iconst (cd_112 rfl) ?_
      refine ey_iadd (cd_112 rfl) ?_
      obtain ⟨h68, e69, e⟩ := jbind e
      refine ey_putf_i (cd_112 rfl) mt_112 rfl rfl rfl e69 ?_
      refine ey_aload_n (cd_112 rfl) f0 ?_
      obtain ⟨v70, e71, e⟩ := jbind e
      refine ey_getf_i (cd_112 rfl) mt_112 rfl rfl rfl e71 ?_
      cases e
      exact ey_reti (cd_112 rfl) mt_112 rfl
    · rw [if_neg q61] at e
      refine ey_nge (cd_112 rfl) rfl rfl rfl q61 ?_
      refine ey_aload_n (cd_112 rfl) f0 ?_
      refine ey_dup (cd_112 rfl) rfl ?_
      obtain ⟨v72, e73, e⟩ := jbind e
      refine ey_getf_i (cd_112 rfl) mt_112 rfl rfl rfl e73 ?_
      refine ey_iconst (cd_112 rfl) ?_
      refine ey_iadd (cd_112 rfl) ?_
      obtain ⟨h74, e75, e⟩ := jbind e
      refine ey_putf_i (cd_112 rfl) mt_112 rfl rfl rfl e75 ?_
      refine ey_iconst (cd_112 rfl) ?_
      cases e
      exact ey_reti (cd_112 rfl) mt_112 rfl
def jd_112_b78 (this : Nat)  (h : jH) : Option (Int × jH) :=
  jd_112_b83 this 1 h
set_option maxRecDepth 100000 in
theorem jk_112_b78 {L : Nat} {xs : Nat → Int32} {this : Nat}  {h : jH} {o : (Int × jH)} (e : jd_112_b78 this  h = some o) : ∀ lv : jL, lv 0 = some (jR (some this)) → ey (mm_xt L xs) 1 112 78 lv [jR (some this)] h (.inl (some (jcv (jI o.1)), jaH o.2)) := by
  intro lv f0
  unfold jd_112_b78 at e
  refine ey_iconst (cd_112 rfl) ?_
  refine ey_goto (cd_112 rfl) rfl ?_
  exact jk_112_b83 e lv f0
def jd_112 (this : Nat)  (h : jH) : Option (Int × jH) :=
  ((jgr h this 7 0).bind fun r1 => ((r1).bind fun a3 => ((jgi h a3 2 6).bind fun v5 => ((jgi h this 7 2).bind fun v7 => ((jgi h this 7 9).bind fun v9 => ((jpi h this 7 2 (if jw (v7 + v9) < jw v5 then (v7 + v9) else v5)).bind fun h11 => ((jgi h11 this 7 3).bind fun v13 => ((jgr h11 this 7 0).bind fun r15 => ((r15).bind fun a17 => ((jgi h11 a17 2 4).bind fun v19 => (if (jw v13) < (jw v19) then ((jgb h11 this 7 4).bind fun v22 => (if (jw v22) = 0 then ((jgi h11 this 7 2).bind fun v25 => ((jgi h11 this 7 11).bind fun v27 => ((jgi h11 this 7 10).bind fun v29 => (if (jw v29) ≤ (jw (v25 - v27)) then jd_112_b78 this  h11 else ((jgi h11 this 7 2).bind fun v76 => ((jgr h11 this 7 0).bind fun r78 => ((r78).bind fun a80 => ((jgi h11 a80 2 6).bind fun v82 => jd_112_b83 this (if (jw v76) = (jw v82) then 1 else 0) h11)))))))) else jd_112_b78 this  h11)) else some ((-3), h11))))))))))))
set_option maxRecDepth 100000 in
theorem ok_112 {L : Nat} {xs : Nat → Int32} {this : Nat}  {h : jH} {o : (Int × jH)} (e : jd_112 this  h = some o) : mm_Runs (mm_xt L xs) 2 112 ([jR (some this)].map jcv) (jaH h) (.inl (some (jcv (jI o.1)), jaH o.2)) := by
  refine ey_run0 _ mt_112 (jsl_s rfl) ?_
  unfold jd_112 at e
  refine ey_aload_n (cd_112 rfl) rfl ?_
  refine ey_aload_n (cd_112 rfl) rfl ?_
  obtain ⟨r1, e2, e⟩ := jbind e
  refine ey_getf_r (cd_112 rfl) mt_112 rfl rfl rfl e2 ?_
  obtain ⟨a3, e4, e⟩ := jbind e
  refine ey_rs (s0 := [jR r1, jR (some this)]) (s1 := [jR (some a3), jR (some this)]) (by rw [e4]) ?_
  obtain ⟨v5, e6, e⟩ := jbind e
  refine ey_getf_i (cd_112 rfl) mt_112 rfl rfl rfl e6 ?_
  refine ey_aload_n (cd_112 rfl) rfl ?_
  obtain ⟨v7, e8, e⟩ := jbind e
  refine ey_getf_i (cd_112 rfl) mt_112 rfl rfl rfl e8 ?_
  refine ey_aload_n (cd_112 rfl) rfl ?_
  obtain ⟨v9, e10, e⟩ := jbind e
  refine ey_getf_i (cd_112 rfl) mt_112 rfl rfl rfl e10 ?_
  refine ey_iadd (cd_112 rfl) ?_
  refine ey_min (cd_112 rfl) mt_112 rfl (jsml_s rfl) ?_
  obtain ⟨h11, e12, e⟩ := jbind e
  refine ey_putf_i (cd_112 rfl) mt_112 rfl rfl rfl e12 ?_
  refine ey_aload_n (cd_112 rfl) rfl ?_
  obtain ⟨v13, e14, e⟩ := jbind e
  refine ey_getf_i (cd_112 rfl) mt_112 rfl rfl rfl e14 ?_
  refine ey_aload_n (cd_112 rfl) rfl ?_
  obtain ⟨r15, e16, e⟩ := jbind e
  refine ey_getf_r (cd_112 rfl) mt_112 rfl rfl rfl e16 ?_
  obtain ⟨a17, e18, e⟩ := jbind e
  refine ey_rs (s0 := [jR r15, jI v13]) (s1 := [jR (some a17), jI v13]) (by rw [e18]) ?_
  obtain ⟨v19, e20, e⟩ := jbind e
  refine ey_getf_i (cd_112 rfl) mt_112 rfl rfl rfl e20 ?_
  by_cases q21 : (jw v13) < (jw v19)
  · rw [if_pos q21] at e
    refine ey_clt (cd_112 rfl) rfl rfl rfl q21 ?_
    refine ey_aload_n (cd_112 rfl) rfl ?_
    refine ey_aload_n (cd_112 rfl) rfl ?_
    obtain ⟨v22, e23, e⟩ := jbind e
    refine ey_getf_z (cd_112 rfl) mt_112 rfl rfl rfl e23 ?_
    by_cases q24 : (jw v22) = 0
    · rw [if_pos q24] at e
      refine ey_yne (cd_112 rfl) rfl rfl (fun w => w q24) ?_
      refine ey_aload_n (cd_112 rfl) rfl ?_
      obtain ⟨v25, e26, e⟩ := jbind e
      refine ey_getf_i (cd_112 rfl) mt_112 rfl rfl rfl e26 ?_
      refine ey_aload_n (cd_112 rfl) rfl ?_
      obtain ⟨v27, e28, e⟩ := jbind e
      refine ey_getf_i (cd_112 rfl) mt_112 rfl rfl rfl e28 ?_
      refine ey_isub (cd_112 rfl) ?_
      refine ey_aload_n (cd_112 rfl) rfl ?_
      obtain ⟨v29, e30, e⟩ := jbind e
      refine ey_getf_i (cd_112 rfl) mt_112 rfl rfl rfl e30 ?_
      by_cases q31 : (jw v29) ≤ (jw (v25 - v27))
      · rw [if_pos q31] at e
        refine ey_cge (cd_112 rfl) rfl rfl rfl q31 ?_
        exact jk_112_b78 e (jlf (jla 0 [jR (some this)])) rfl
      · rw [if_neg q31] at e
        refine ey_nge (cd_112 rfl) rfl rfl rfl q31 ?_
        refine ey_aload_n (cd_112 rfl) rfl ?_
        obtain ⟨v76, e77, e⟩ := jbind e
        refine ey_getf_i (cd_112 rfl) mt_112 rfl rfl rfl e77 ?_
        refine ey_aload_n (cd_112 rfl) rfl ?_
        obtain ⟨r78, e79, e⟩ := jbind e
        refine ey_getf_r (cd_112 rfl) mt_112 rfl rfl rfl e79 ?_
        obtain ⟨a80, e81, e⟩ := jbind e
        refine ey_rs (s0 := [jR r78, jI v76, jR (some this)]) (s1 := [jR (some a80), jI v76, jR (some this)]) (by rw [e81]) ?_
        obtain ⟨v82, e83, e⟩ := jbind e
        refine ey_getf_i (cd_112 rfl) mt_112 rfl rfl rfl e83 ?_
        have K84 : ∀ lv : jL, lv 0 = some (jR (some this)) → ey (mm_xt L xs) 1 112 83 lv [jI (if (jw v76) = (jw v82) then 1 else 0), jR (some this)] h11 (.inl (some (jcv (jI o.1)), jaH o.2)) := by
          intro lv g0
          exact jk_112_b83 e lv g0
        by_cases q85 : (jw v76) = (jw v82)
        · refine ey_nne (cd_112 rfl) rfl rfl rfl (fun w => w q85) ?_
          refine ey_iconst (cd_112 rfl) ?_
          refine ey_goto (cd_112 rfl) rfl ?_
          exact ey_rs (s0 := [jI 1, jR (some this)]) (s1 := [jI (if (jw v76) = (jw v82) then 1 else 0), jR (some this)]) (by rw [show ((if (jw v76) = (jw v82) then 1 else 0) : Int) = 1 from (if_pos q85)]) (K84 (jlf (jla 0 [jR (some this)])) rfl)
        · refine ey_cne (cd_112 rfl) rfl rfl rfl q85 ?_
          refine ey_iconst (cd_112 rfl) ?_
          exact ey_rs (s0 := [jI 0, jR (some this)]) (s1 := [jI (if (jw v76) = (jw v82) then 1 else 0), jR (some this)]) (by rw [show ((if (jw v76) = (jw v82) then 1 else 0) : Int) = 0 from (if_neg q85)]) (K84 (jlf (jla 0 [jR (some this)])) rfl)
    · rw [if_neg q24] at e
      refine ey_zne (cd_112 rfl) rfl rfl q24 ?_
      exact jk_112_b78 e (jlf (jla 0 [jR (some this)])) rfl
  · rw [if_neg q21] at e
    refine ey_nlt (cd_112 rfl) rfl rfl rfl q21 ?_
    refine ey_bipush (cd_112 rfl) (by decide) ?_
    cases e
    exact ey_reti (cd_112 rfl) mt_112 rfl
theorem cd_113 {pc : Nat} {i : Instr × Nat} (h : mm_lk mm_c113 pc = some i) : mm_cd 113 pc = some i := h
theorem mt_113 : mm_MT 113 = (8, 1, none, 0, 2, []) := rfl
def jd_113 (this : Nat)  (h : jH) : Option jH :=
  ((jnw h 0).bind fun n1 => ((jd_0 n1.1 n1.2).bind fun h3 => ((jpr h3 this 8 0 (some n1.1)).bind fun h5 => ((jnw h5 5).bind fun n7 => ((jd_72 n7.1 n7.2).bind fun h9 => ((jpr h9 this 8 1 (some n7.1)).bind fun h11 => ((jnw h11 10).bind fun n13 => ((jd_131 n13.1 n13.2).bind fun h15 => ((jpr h15 this 8 2 (some n13.1)).bind fun h17 => ((jnw h17 9).bind fun n19 => ((jd_123 n19.1 n19.2).bind fun h21 => ((jpr h21 this 8 3 (some n19.1)).bind fun h23 => ((jnw h23 2).bind fun n25 => ((jd_21 n25.1 n25.2).bind fun h27 => ((jpr h27 this 8 4 (some n25.1)).bind fun h29 => ((jna h29 0 4).bind fun n31 => ((jpr n31.2 this 8 5 (some n31.1)).bind fun h33 => ((jpi h33 this 8 6 0).bind fun h35 => some h35))))))))))))))))))
set_option maxRecDepth 100000 in
theorem ok_113 {L : Nat} {xs : Nat → Int32} {this : Nat}  {h : jH} {o : jH} (e : jd_113 this  h = some o) : mm_Runs (mm_xt L xs) 2 113 ([jR (some this)].map jcv) (jaH h) (.inl (none, jaH o)) := by
  refine ey_run0 _ mt_113 (jsl_s rfl) ?_
  unfold jd_113 at e
  refine ey_aload_n (cd_113 rfl) rfl ?_
  refine ey_oini (cd_113 rfl) mt_113 rfl (jsml_s rfl) ?_
  refine ey_aload_n (cd_113 rfl) rfl ?_
  obtain ⟨n1, e2, e⟩ := jbind e
  refine ey_new (cd_113 rfl) mt_113 rfl rfl jdf_0 e2 ?_
  refine ey_dup (cd_113 rfl) rfl ?_
  obtain ⟨h3, e4, e⟩ := jbind e
  refine ey_ci (s0 := [jR (some n1.1), jR (some n1.1), jR (some this)]) (s1 := [jR (some n1.1), jR (some this)]) (st' := [jR (some n1.1), jR (some this)]) (cd_113 rfl) mt_113 mt_0 rfl (by decide) rfl rfl (jsml_s rfl) rfl (ok_0 e4) ?_
  obtain ⟨h5, e6, e⟩ := jbind e
  refine ey_putf_r (cd_113 rfl) mt_113 rfl rfl rfl e6 ?_
  refine ey_aload_n (cd_113 rfl) rfl ?_
  obtain ⟨n7, e8, e⟩ := jbind e
  refine ey_new (cd_113 rfl) mt_113 rfl rfl jdf_5 e8 ?_
  refine ey_dup (cd_113 rfl) rfl ?_
  obtain ⟨h9, e10, e⟩ := jbind e
  refine ey_ci (s0 := [jR (some n7.1), jR (some n7.1), jR (some this)]) (s1 := [jR (some n7.1), jR (some this)]) (st' := [jR (some n7.1), jR (some this)]) (cd_113 rfl) mt_113 mt_72 rfl (by decide) rfl rfl (jsml_s rfl) rfl (ok_72 e10) ?_
  obtain ⟨h11, e12, e⟩ := jbind e
  refine ey_putf_r (cd_113 rfl) mt_113 rfl rfl rfl e12 ?_
  refine ey_aload_n (cd_113 rfl) rfl ?_
  obtain ⟨n13, e14, e⟩ := jbind e
  refine ey_new (cd_113 rfl) mt_113 rfl rfl jdf_10 e14 ?_
  refine ey_dup (cd_113 rfl) rfl ?_
  obtain ⟨h15, e16, e⟩ := jbind e
  refine ey_ci (s0 := [jR (some n13.1), jR (some n13.1), jR (some this)]) (s1 := [jR (some n13.1), jR (some this)]) (st' := [jR (some n13.1), jR (some this)]) (cd_113 rfl) mt_113 mt_131 rfl (by decide) rfl rfl (jsml_s rfl) rfl (ok_131 e16) ?_
  obtain ⟨h17, e18, e⟩ := jbind e
  refine ey_putf_r (cd_113 rfl) mt_113 rfl rfl rfl e18 ?_
  refine ey_aload_n (cd_113 rfl) rfl ?_
  obtain ⟨n19, e20, e⟩ := jbind e
  refine ey_new (cd_113 rfl) mt_113 rfl rfl jdf_9 e20 ?_
  refine ey_dup (cd_113 rfl) rfl ?_
  obtain ⟨h21, e22, e⟩ := jbind e
  refine ey_ci (s0 := [jR (some n19.1), jR (some n19.1), jR (some this)]) (s1 := [jR (some n19.1), jR (some this)]) (st' := [jR (some n19.1), jR (some this)]) (cd_113 rfl) mt_113 mt_123 rfl (by decide) rfl rfl (jsml_s rfl) rfl (ok_123 e22) ?_
  obtain ⟨h23, e24, e⟩ := jbind e
  refine ey_putf_r (cd_113 rfl) mt_113 rfl rfl rfl e24 ?_
  refine ey_aload_n (cd_113 rfl) rfl ?_
  obtain ⟨n25, e26, e⟩ := jbind e
  refine ey_new (cd_113 rfl) mt_113 rfl rfl jdf_2 e26 ?_
  refine ey_dup (cd_113 rfl) rfl ?_
  obtain ⟨h27, e28, e⟩ := jbind e
  refine ey_ci (s0 := [jR (some n25.1), jR (some n25.1), jR (some this)]) (s1 := [jR (some n25.1), jR (some this)]) (st' := [jR (some n25.1), jR (some this)]) (cd_113 rfl) mt_113 mt_21 rfl (by decide) rfl rfl (jsml_s rfl) rfl (ok_21 e28) ?_
  obtain ⟨h29, e30, e⟩ := jbind e
  refine ey_putf_r (cd_113 rfl) mt_113 rfl rfl rfl e30 ?_
  refine ey_aload_n (cd_113 rfl) rfl ?_
  refine ey_iconst (cd_113 rfl) ?_
  obtain ⟨n31, e32, e⟩ := jbind e
  refine ey_newarr (cd_113 rfl) (by decide) e32 ?_
  obtain ⟨h33, e34, e⟩ := jbind e
  refine ey_putf_r (cd_113 rfl) mt_113 rfl rfl rfl e34 ?_
  refine ey_aload_n (cd_113 rfl) rfl ?_
  refine ey_iconst (cd_113 rfl) ?_
  obtain ⟨h35, e36, e⟩ := jbind e
  refine ey_putf_i (cd_113 rfl) mt_113 rfl rfl rfl e36 ?_
  cases e
  exact ey_retv (cd_113 rfl) mt_113 rfl
theorem cd_116 {pc : Nat} {i : Instr × Nat} (h : mm_lk mm_c116 pc = some i) : mm_cd 116 pc = some i := h
theorem mt_116 : mm_MT 116 = (8, 8, none, 3, 1, []) := rfl
def jd_116_b90 (x0 : Option Nat) (x1 : Int) (x2 : Option Nat) (x3 : Option Nat) (x4 : Int) (x5 : Int) (x6 : Int) (x7 : Int) (h : jH) : Option ((Int × Int × jH) ⊕ (Int × jH)) :=
  some (.inl ((x5 + 1), (x7 + 1), h))
set_option maxRecDepth 100000 in
theorem jk_116_b90 {L : Nat} {xs : Nat → Int32} {x0 : Option Nat} {x1 : Int} {x2 : Option Nat} {x3 : Option Nat} {x4 : Int} {x5 : Int} {x6 : Int} {x7 : Int} {h : jH} {o : ((Int × Int × jH) ⊕ (Int × jH))} {r : mm_R} (e : jd_116_b90 x0 x1 x2 x3 x4 x5 x6 x7 h = some o) (K : jsm (fun s => (∀ lv : jL, lv 0 = some (jR x0) → lv 1 = some (jI x1) → lv 2 = some (jR x2) → lv 3 = some (jR x3) → lv 4 = some (jI x4) → lv 5 = some (jI s.1) → lv 6 = some (jI x6) → lv 7 = some (jI s.2.1) → ey (mm_xt L xs) 2 116 41 lv [] s.2.2 r)) (fun x => (∀ lv : jL, lv 0 = some (jR x0) → lv 1 = some (jI x1) → lv 2 = some (jR x2) → lv 3 = some (jR x3) → lv 4 = some (jI x4) → lv 5 = some (jI x.1) → lv 6 = some (jI x6) → ey (mm_xt L xs) 2 116 99 lv [] x.2 r)) o) : ∀ lv : jL, lv 0 = some (jR x0) → lv 1 = some (jI x1) → lv 2 = some (jR x2) → lv 3 = some (jR x3) → lv 4 = some (jI x4) → lv 5 = some (jI x5) → lv 6 = some (jI x6) → lv 7 = some (jI x7) → ey (mm_xt L xs) 2 116 90 lv [] h r := by
  intro lv f0 f1 f2 f3 f4 f5 f6 f7
  unfold jd_116_b90 at e
  refine ey_iinc (cd_116 rfl) mt_116 rfl f5 ?_
  refine ey_iinc (cd_116 rfl) mt_116 rfl f7 ?_
  refine ey_goto (cd_116 rfl) rfl ?_
  cases e
  exact K (jup (jup lv 5 (jI (x5 + 1))) 7 (jI (x7 + 1))) f0 f1 f2 f3 (jup_o rfl (jup_pi (lv := lv) (j := 4) (v := jI (x5 + 1)) (z := x4) f4)) rfl (jup_pi (lv := (jup lv 5 (jI (x5 + 1)))) (j := 6) (v := jI (x7 + 1)) (z := x6) f6) rfl
def jd_116_b89 (x0 : Option Nat) (x1 : Int) (x2 : Option Nat) (x3 : Option Nat) (x4 : Int) (x5 : Int) (x6 : Int) (x7 : Int) (y0 : Int) (y1 : Int) (y2 : Option Nat) (h : jH) : Option ((Int × Int × jH) ⊕ (Int × jH)) :=
  ((y2).bind fun a42 => ((jta h a42 0 y1 y0).bind fun h44 => jd_116_b90 x0 x1 x2 x3 x4 x5 x6 x7 h44))
set_option maxRecDepth 100000 in
theorem jk_116_b89 {L : Nat} {xs : Nat → Int32} {x0 : Option Nat} {x1 : Int} {x2 : Option Nat} {x3 : Option Nat} {x4 : Int} {x5 : Int} {x6 : Int} {x7 : Int} {y0 : Int} {y1 : Int} {y2 : Option Nat} {h : jH} {o : ((Int × Int × jH) ⊕ (Int × jH))} {r : mm_R} (e : jd_116_b89 x0 x1 x2 x3 x4 x5 x6 x7 y0 y1 y2 h = some o) (K : jsm (fun s => (∀ lv : jL, lv 0 = some (jR x0) → lv 1 = some (jI x1) → lv 2 = some (jR x2) → lv 3 = some (jR x3) → lv 4 = some (jI x4) → lv 5 = some (jI s.1) → lv 6 = some (jI x6) → lv 7 = some (jI s.2.1) → ey (mm_xt L xs) 2 116 41 lv [] s.2.2 r)) (fun x => (∀ lv : jL, lv 0 = some (jR x0) → lv 1 = some (jI x1) → lv 2 = some (jR x2) → lv 3 = some (jR x3) → lv 4 = some (jI x4) → lv 5 = some (jI x.1) → lv 6 = some (jI x6) → ey (mm_xt L xs) 2 116 99 lv [] x.2 r)) o) : ∀ lv : jL, lv 0 = some (jR x0) → lv 1 = some (jI x1) → lv 2 = some (jR x2) → lv 3 = some (jR x3) → lv 4 = some (jI x4) → lv 5 = some (jI x5) → lv 6 = some (jI x6) → lv 7 = some (jI x7) → ey (mm_xt L xs) 2 116 89 lv [jI y0, jI y1, jR y2] h r := by
  intro lv f0 f1 f2 f3 f4 f5 f6 f7
  unfold jd_116_b89 at e
  obtain ⟨a42, e43, e⟩ := jbind e
  refine ey_rs (s0 := [jI y0, jI y1, jR y2]) (s1 := [jI y0, jI y1, jR (some a42)]) (by rw [e43]) ?_
  obtain ⟨h44, e45, e⟩ := jbind e
  refine ey_iast (cd_116 rfl) e45 ?_
  exact jk_116_b90 e K lv f0 f1 f2 f3 f4 f5 f6 f7
def jd_116_s41 (x0 : Option Nat) (x1 : Int) (x2 : Option Nat) (x3 : Option Nat) (x4 : Int) (x6 : Int) (x5 : Int) (x7 : Int) (h : jH) : Option ((Int × Int × jH) ⊕ (Int × jH)) :=
  ((x3).bind fun a23 => ((jck h a23 6).bind fun u25 => ((jd_96 a23 x4 h).bind fun v27 => (if (jw v27) ≤ (jw x7) then some (.inr (x5, h)) else ((x0).bind fun a30 => ((jck h a30 2).bind fun u32 => ((jd_43 a30 x1 x4 x7 x6 h).bind fun v34 => (if (jw v34) = 0 then jd_116_b90 x0 x1 x2 x3 x4 x5 x6 x7 h else ((x3).bind fun a37 => ((jgr h a37 6 2).bind fun r39 => (if x2 = none then jd_116_b89 x0 x1 x2 x3 x4 x5 x6 x7 128 x5 r39 h else ((x2).bind fun a46 => ((jgr h a46 6 2).bind fun r48 => ((r48).bind fun a50 => ((jai h a50 x5).bind fun v52 => jd_116_b89 x0 x1 x2 x3 x4 x5 x6 x7 v52 x5 r39 h)))))))))))))))
set_option maxRecDepth 100000 in
theorem jk_116_s41 {L : Nat} {xs : Nat → Int32} {x0 : Option Nat} {x1 : Int} {x2 : Option Nat} {x3 : Option Nat} {x4 : Int} {x6 : Int} {x5 : Int} {x7 : Int} {h : jH} {o : ((Int × Int × jH) ⊕ (Int × jH))} {r : mm_R} (e : jd_116_s41 x0 x1 x2 x3 x4 x6 x5 x7 h = some o) (K : jsm (fun s => (∀ lv : jL, lv 0 = some (jR x0) → lv 1 = some (jI x1) → lv 2 = some (jR x2) → lv 3 = some (jR x3) → lv 4 = some (jI x4) → lv 5 = some (jI s.1) → lv 6 = some (jI x6) → lv 7 = some (jI s.2.1) → ey (mm_xt L xs) 2 116 41 lv [] s.2.2 r)) (fun x => (∀ lv : jL, lv 0 = some (jR x0) → lv 1 = some (jI x1) → lv 2 = some (jR x2) → lv 3 = some (jR x3) → lv 4 = some (jI x4) → lv 5 = some (jI x.1) → lv 6 = some (jI x6) → ey (mm_xt L xs) 2 116 99 lv [] x.2 r)) o) : ∀ lv : jL, lv 0 = some (jR x0) → lv 1 = some (jI x1) → lv 2 = some (jR x2) → lv 3 = some (jR x3) → lv 4 = some (jI x4) → lv 5 = some (jI x5) → lv 6 = some (jI x6) → lv 7 = some (jI x7) → ey (mm_xt L xs) 2 116 41 lv [] h r := by
  intro lv f0 f1 f2 f3 f4 f5 f6 f7
  unfold jd_116_s41 at e
  refine ey_iload (cd_116 rfl) f7 ?_
  refine ey_aload_n (cd_116 rfl) f3 ?_
  refine ey_iload (cd_116 rfl) f4 ?_
  obtain ⟨a23, e24, e⟩ := jbind e
  refine ey_rs (s0 := [jI x4, jR x3, jI x7]) (s1 := [jI x4, jR (some a23), jI x7]) (by rw [e24]) ?_
  obtain ⟨u25, e26, e⟩ := jbind e
  obtain ⟨v27, e28, e⟩ := jbind e
  refine ey_cv (s0 := [jI x4, jR (some a23), jI x7]) (s1 := [jI x7]) (st' := [jI v27, jI x7]) (cd_116 rfl) mt_116 mt_96 rfl rfl rfl (jck_s e26) rfl (jsml_s rfl) rfl (mm_Runs.up (d := 1) (by decide) (ok_96 e28)) ?_
  by_cases q29 : (jw v27) ≤ (jw x7)
  · rw [if_pos q29] at e
    refine ey_cge (cd_116 rfl) rfl rfl rfl q29 ?_
    cases e
    exact K lv f0 f1 f2 f3 f4 f5 f6
  · rw [if_neg q29] at e
    refine ey_nge (cd_116 rfl) rfl rfl rfl q29 ?_
    refine ey_aload_n (cd_116 rfl) f0 ?_
    refine ey_iload_n (cd_116 rfl) f1 ?_
    refine ey_iload (cd_116 rfl) f4 ?_
    refine ey_iload (cd_116 rfl) f7 ?_
    refine ey_iload (cd_116 rfl) f6 ?_
    obtain ⟨a30, e31, e⟩ := jbind e
    refine ey_rs (s0 := [jI x6, jI x7, jI x4, jI x1, jR x0]) (s1 := [jI x6, jI x7, jI x4, jI x1, jR (some a30)]) (by rw [e31]) ?_
    obtain ⟨u32, e33, e⟩ := jbind e
    obtain ⟨v34, e35, e⟩ := jbind e
    refine ey_cv (s0 := [jI x6, jI x7, jI x4, jI x1, jR (some a30)]) (s1 := []) (st' := [jI v34]) (cd_116 rfl) mt_116 mt_43 rfl rfl rfl (jck_s e33) rfl (jsml_s rfl) rfl (ok_43 e35) ?_
    by_cases q36 : (jw v34) = 0
    · rw [if_pos q36] at e
      refine ey_zeq (cd_116 rfl) rfl rfl q36 ?_
      exact jk_116_b90 e K lv f0 f1 f2 f3 f4 f5 f6 f7
    · rw [if_neg q36] at e
      refine ey_yeq (cd_116 rfl) rfl rfl q36 ?_
      refine ey_aload_n (cd_116 rfl) f3 ?_
      obtain ⟨a37, e38, e⟩ := jbind e
      refine ey_rs (s0 := [jR x3]) (s1 := [jR (some a37)]) (by rw [e38]) ?_
      obtain ⟨r39, e40, e⟩ := jbind e
      refine ey_getf_r (cd_116 rfl) mt_116 rfl rfl rfl e40 ?_
      refine ey_iload (cd_116 rfl) f5 ?_
      refine ey_aload_n (cd_116 rfl) f2 ?_
      by_cases q41 : x2 = none
      · rw [if_pos q41] at e
        refine ey_rs (s0 := [jR x2, jI x5, jR r39]) (s1 := [jR none, jI x5, jR r39]) (by rw [q41]) ?_
        refine ey_ifnonnull_n (cd_116 rfl) rfl ?_
        refine ey_sipush (cd_116 rfl) (by decide) ?_
        refine ey_goto (cd_116 rfl) rfl ?_
        exact jk_116_b89 e K lv f0 f1 f2 f3 f4 f5 f6 f7
      · rw [if_neg q41] at e
        obtain ⟨w54, w54e⟩ := Option.ne_none_iff_exists'.mp q41
        refine ey_rs (s0 := [jR x2, jI x5, jR r39]) (s1 := [jR (some w54), jI x5, jR r39]) (by rw [w54e]) ?_
        refine ey_ifnonnull_s (cd_116 rfl) rfl ?_
        refine ey_aload_n (cd_116 rfl) f2 ?_
        obtain ⟨a46, e47, e⟩ := jbind e
        refine ey_rs (s0 := [jR x2, jI x5, jR r39]) (s1 := [jR (some a46), jI x5, jR r39]) (by rw [e47]) ?_
        obtain ⟨r48, e49, e⟩ := jbind e
        refine ey_getf_r (cd_116 rfl) mt_116 rfl rfl rfl e49 ?_
        refine ey_iload (cd_116 rfl) f5 ?_
        obtain ⟨a50, e51, e⟩ := jbind e
        refine ey_rs (s0 := [jI x5, jR r48, jI x5, jR r39]) (s1 := [jI x5, jR (some a50), jI x5, jR r39]) (by rw [e51]) ?_
        obtain ⟨v52, e53, e⟩ := jbind e
        refine ey_iald (cd_116 rfl) e53 ?_
        exact jk_116_b89 e K lv f0 f1 f2 f3 f4 f5 f6 f7
def jd_116_l41 (x0 : Option Nat) (x1 : Int) (x2 : Option Nat) (x3 : Option Nat) (x4 : Int) (x6 : Int) (x5 : Int) (x7 : Int) (h : jH) : Option (Int × jH) :=
  jlp (fun s : (Int × Int × jH) => jd_116_s41 x0 x1 x2 x3 x4 x6 s.1 s.2.1 s.2.2) jfu (x5, x7, h)
theorem jk_116_l41 {L : Nat} {xs : Nat → Int32} {x0 : Option Nat} {x1 : Int} {x2 : Option Nat} {x3 : Option Nat} {x4 : Int} {x6 : Int} {x5 : Int} {x7 : Int} {h : jH} {x : (Int × jH)} {r : mm_R} (e : jd_116_l41 x0 x1 x2 x3 x4 x6 x5 x7 h = some x) (K : (∀ lv : jL, lv 0 = some (jR x0) → lv 1 = some (jI x1) → lv 2 = some (jR x2) → lv 3 = some (jR x3) → lv 4 = some (jI x4) → lv 5 = some (jI x.1) → lv 6 = some (jI x6) → ey (mm_xt L xs) 2 116 99 lv [] x.2 r)) : ∀ lv : jL, lv 0 = some (jR x0) → lv 1 = some (jI x1) → lv 2 = some (jR x2) → lv 3 = some (jR x3) → lv 4 = some (jI x4) → lv 5 = some (jI x5) → lv 6 = some (jI x6) → lv 7 = some (jI x7) → ey (mm_xt L xs) 2 116 41 lv [] h r := by
  unfold jd_116_l41 at e
  exact jlp_ok2 (P := fun s => ∀ lv : jL, lv 0 = some (jR x0) → lv 1 = some (jI x1) → lv 2 = some (jR x2) → lv 3 = some (jR x3) → lv 4 = some (jI x4) → lv 5 = some (jI s.1) → lv 6 = some (jI x6) → lv 7 = some (jI s.2.1) → ey (mm_xt L xs) 2 116 41 lv [] s.2.2 r) (Q := fun x => (∀ lv : jL, lv 0 = some (jR x0) → lv 1 = some (jI x1) → lv 2 = some (jR x2) → lv 3 = some (jR x3) → lv 4 = some (jI x4) → lv 5 = some (jI x.1) → lv 6 = some (jI x6) → ey (mm_xt L xs) 2 116 99 lv [] x.2 r)) (fun s q hq hk => jk_116_s41 hq hk) jfu _ x e K
def jd_116_s27 (x0 : Option Nat) (x1 : Int) (x2 : Option Nat) (x3 : Option Nat) (x4 : Int) (x5 : Int) (x6 : Int) (h : jH) : Option ((Int × Int × jH) ⊕ jH) :=
  ((x3).bind fun a16 => ((jck h a16 6).bind fun u18 => ((jd_97 a16 x4 h).bind fun v20 => (if (jw v20) ≤ (jw x6) then some (.inr h) else ((jd_116_l41 x0 x1 x2 x3 x4 x6 x5 0 h).bind fun x55 => some (.inl (x55.1, (x6 + 1), x55.2)))))))
set_option maxRecDepth 100000 in
theorem jk_116_s27 {L : Nat} {xs : Nat → Int32} {x0 : Option Nat} {x1 : Int} {x2 : Option Nat} {x3 : Option Nat} {x4 : Int} {x5 : Int} {x6 : Int} {h : jH} {o : ((Int × Int × jH) ⊕ jH)} {r : mm_R} (e : jd_116_s27 x0 x1 x2 x3 x4 x5 x6 h = some o) (K : jsm (fun s => (∀ lv : jL, lv 0 = some (jR x0) → lv 1 = some (jI x1) → lv 2 = some (jR x2) → lv 3 = some (jR x3) → lv 4 = some (jI x4) → lv 5 = some (jI s.1) → lv 6 = some (jI s.2.1) → ey (mm_xt L xs) 2 116 27 lv [] s.2.2 r)) (fun x => (∀ lv : jL, lv 0 = some (jR x0) → lv 1 = some (jI x1) → lv 2 = some (jR x2) → lv 3 = some (jR x3) → lv 4 = some (jI x4) → ey (mm_xt L xs) 2 116 105 lv [] x r)) o) : ∀ lv : jL, lv 0 = some (jR x0) → lv 1 = some (jI x1) → lv 2 = some (jR x2) → lv 3 = some (jR x3) → lv 4 = some (jI x4) → lv 5 = some (jI x5) → lv 6 = some (jI x6) → ey (mm_xt L xs) 2 116 27 lv [] h r := by
  intro lv f0 f1 f2 f3 f4 f5 f6
  unfold jd_116_s27 at e
  refine ey_iload (cd_116 rfl) f6 ?_
  refine ey_aload_n (cd_116 rfl) f3 ?_
  refine ey_iload (cd_116 rfl) f4 ?_
  obtain ⟨a16, e17, e⟩ := jbind e
  refine ey_rs (s0 := [jI x4, jR x3, jI x6]) (s1 := [jI x4, jR (some a16), jI x6]) (by rw [e17]) ?_
  obtain ⟨u18, e19, e⟩ := jbind e
  obtain ⟨v20, e21, e⟩ := jbind e
  refine ey_cv (s0 := [jI x4, jR (some a16), jI x6]) (s1 := [jI x6]) (st' := [jI v20, jI x6]) (cd_116 rfl) mt_116 mt_97 rfl rfl rfl (jck_s e19) rfl (jsml_s rfl) rfl (mm_Runs.up (d := 1) (by decide) (ok_97 e21)) ?_
  by_cases q22 : (jw v20) ≤ (jw x6)
  · rw [if_pos q22] at e
    refine ey_cge (cd_116 rfl) rfl rfl rfl q22 ?_
    cases e
    exact K lv f0 f1 f2 f3 f4
  · rw [if_neg q22] at e
    refine ey_nge (cd_116 rfl) rfl rfl rfl q22 ?_
    refine ey_iconst (cd_116 rfl) ?_
    refine ey_istore (cd_116 rfl) mt_116 rfl ?_
    obtain ⟨x55, e56, e⟩ := jbind e
    refine jk_116_l41 e56 ?_ (jup lv 7 (jI 0)) f0 f1 f2 f3 f4 f5 (jup_pi (lv := lv) (j := 6) (v := jI 0) (z := x6) f6) rfl
    intro lv g0 g1 g2 g3 g4 g5 g6
    refine ey_iinc (cd_116 rfl) mt_116 rfl g6 ?_
    refine ey_goto (cd_116 rfl) rfl ?_
    cases e
    exact K (jup lv 6 (jI (x6 + 1))) g0 g1 g2 g3 g4 (jup_pi (lv := lv) (j := 5) (v := jI (x6 + 1)) (z := x55.1) g5) rfl
def jd_116_l27 (x0 : Option Nat) (x1 : Int) (x2 : Option Nat) (x3 : Option Nat) (x4 : Int) (x5 : Int) (x6 : Int) (h : jH) : Option jH :=
  jlp (fun s : (Int × Int × jH) => jd_116_s27 x0 x1 x2 x3 x4 s.1 s.2.1 s.2.2) jfu (x5, x6, h)
theorem jk_116_l27 {L : Nat} {xs : Nat → Int32} {x0 : Option Nat} {x1 : Int} {x2 : Option Nat} {x3 : Option Nat} {x4 : Int} {x5 : Int} {x6 : Int} {h : jH} {x : jH} {r : mm_R} (e : jd_116_l27 x0 x1 x2 x3 x4 x5 x6 h = some x) (K : (∀ lv : jL, lv 0 = some (jR x0) → lv 1 = some (jI x1) → lv 2 = some (jR x2) → lv 3 = some (jR x3) → lv 4 = some (jI x4) → ey (mm_xt L xs) 2 116 105 lv [] x r)) : ∀ lv : jL, lv 0 = some (jR x0) → lv 1 = some (jI x1) → lv 2 = some (jR x2) → lv 3 = some (jR x3) → lv 4 = some (jI x4) → lv 5 = some (jI x5) → lv 6 = some (jI x6) → ey (mm_xt L xs) 2 116 27 lv [] h r := by
  unfold jd_116_l27 at e
  exact jlp_ok2 (P := fun s => ∀ lv : jL, lv 0 = some (jR x0) → lv 1 = some (jI x1) → lv 2 = some (jR x2) → lv 3 = some (jR x3) → lv 4 = some (jI x4) → lv 5 = some (jI s.1) → lv 6 = some (jI s.2.1) → ey (mm_xt L xs) 2 116 27 lv [] s.2.2 r) (Q := fun x => (∀ lv : jL, lv 0 = some (jR x0) → lv 1 = some (jI x1) → lv 2 = some (jR x2) → lv 3 = some (jR x3) → lv 4 = some (jI x4) → ey (mm_xt L xs) 2 116 105 lv [] x r)) (fun s q hq hk => jk_116_s27 hq hk) jfu _ x e K
def jd_116_s10 (x0 : Option Nat) (x1 : Int) (x2 : Option Nat) (x3 : Option Nat) (x4 : Int) (h : jH) : Option ((Int × jH) ⊕ jH) :=
  (if 3 ≤ (jw x4) then some (.inr h) else ((x3).bind fun a10 => ((jck h a10 6).bind fun u12 => ((jd_98 a10 x4 h).bind fun v14 => ((jd_116_l27 x0 x1 x2 x3 x4 v14 0 h).bind fun x57 => some (.inl ((x4 + 1), x57)))))))
set_option maxRecDepth 100000 in
theorem jk_116_s10 {L : Nat} {xs : Nat → Int32} {x0 : Option Nat} {x1 : Int} {x2 : Option Nat} {x3 : Option Nat} {x4 : Int} {h : jH} {o : ((Int × jH) ⊕ jH)} {r : mm_R} (e : jd_116_s10 x0 x1 x2 x3 x4 h = some o) (K : jsm (fun s => (∀ lv : jL, lv 0 = some (jR x0) → lv 1 = some (jI x1) → lv 2 = some (jR x2) → lv 3 = some (jR x3) → lv 4 = some (jI s.1) → ey (mm_xt L xs) 2 116 10 lv [] s.2 r)) (fun x => (∀ lv : jL, ey (mm_xt L xs) 2 116 111 lv [] x r)) o) : ∀ lv : jL, lv 0 = some (jR x0) → lv 1 = some (jI x1) → lv 2 = some (jR x2) → lv 3 = some (jR x3) → lv 4 = some (jI x4) → ey (mm_xt L xs) 2 116 10 lv [] h r := by
  intro lv f0 f1 f2 f3 f4
  unfold jd_116_s10 at e
  refine ey_iload (cd_116 rfl) f4 ?_
  refine ey_iconst (cd_116 rfl) ?_
  by_cases q9 : 3 ≤ (jw x4)
  · rw [if_pos q9] at e
    refine ey_cge (cd_116 rfl) rfl rfl (show jw 3 = 3 from by decide) q9 ?_
    cases e
    exact K lv 
  · rw [if_neg q9] at e
    refine ey_nge (cd_116 rfl) rfl rfl (show jw 3 = 3 from by decide) q9 ?_
    refine ey_aload_n (cd_116 rfl) f3 ?_
    refine ey_iload (cd_116 rfl) f4 ?_
    obtain ⟨a10, e11, e⟩ := jbind e
    refine ey_rs (s0 := [jI x4, jR x3]) (s1 := [jI x4, jR (some a10)]) (by rw [e11]) ?_
    obtain ⟨u12, e13, e⟩ := jbind e
    obtain ⟨v14, e15, e⟩ := jbind e
    refine ey_cv (s0 := [jI x4, jR (some a10)]) (s1 := []) (st' := [jI v14]) (cd_116 rfl) mt_116 mt_98 rfl rfl rfl (jck_s e13) rfl (jsml_s rfl) rfl (mm_Runs.up (d := 1) (by decide) (ok_98 e15)) ?_
    refine ey_istore (cd_116 rfl) mt_116 rfl ?_
    refine ey_iconst (cd_116 rfl) ?_
    refine ey_istore (cd_116 rfl) mt_116 rfl ?_
    obtain ⟨x57, e58, e⟩ := jbind e
    refine jk_116_l27 e58 ?_ (jup (jup lv 5 (jI v14)) 6 (jI 0)) f0 f1 f2 f3 (jup_o rfl (jup_pi (lv := lv) (j := 4) (v := jI v14) (z := x4) f4)) (jup_pi (lv := (jup lv 5 (jI v14))) (j := 5) (v := jI 0) (z := v14) rfl) rfl
    intro lv g0 g1 g2 g3 g4
    refine ey_iinc (cd_116 rfl) mt_116 rfl g4 ?_
    refine ey_goto (cd_116 rfl) rfl ?_
    cases e
    exact K (jup lv 4 (jI (x4 + 1))) g0 g1 g2 (jup_pr (lv := lv) (j := 3) (v := jI (x4 + 1)) (z := x3) g3) rfl
def jd_116_l10 (x0 : Option Nat) (x1 : Int) (x2 : Option Nat) (x3 : Option Nat) (x4 : Int) (h : jH) : Option jH :=
  jlp (fun s : (Int × jH) => jd_116_s10 x0 x1 x2 x3 s.1 s.2) jfu (x4, h)
theorem jk_116_l10 {L : Nat} {xs : Nat → Int32} {x0 : Option Nat} {x1 : Int} {x2 : Option Nat} {x3 : Option Nat} {x4 : Int} {h : jH} {x : jH} {r : mm_R} (e : jd_116_l10 x0 x1 x2 x3 x4 h = some x) (K : (∀ lv : jL, ey (mm_xt L xs) 2 116 111 lv [] x r)) : ∀ lv : jL, lv 0 = some (jR x0) → lv 1 = some (jI x1) → lv 2 = some (jR x2) → lv 3 = some (jR x3) → lv 4 = some (jI x4) → ey (mm_xt L xs) 2 116 10 lv [] h r := by
  unfold jd_116_l10 at e
  exact jlp_ok2 (P := fun s => ∀ lv : jL, lv 0 = some (jR x0) → lv 1 = some (jI x1) → lv 2 = some (jR x2) → lv 3 = some (jR x3) → lv 4 = some (jI s.1) → ey (mm_xt L xs) 2 116 10 lv [] s.2 r) (Q := fun x => (∀ lv : jL, ey (mm_xt L xs) 2 116 111 lv [] x r)) (fun s q hq hk => jk_116_s10 hq hk) jfu _ x e K
def jd_116 (p0 : Option Nat) (p1 : Int) (p2 : Option Nat) (h : jH) : Option jH :=
  ((p0).bind fun a1 => ((jgr h a1 2 15).bind fun r3 => ((r3).bind fun a5 => ((jar h a5 6 p1).bind fun r7 => ((jd_116_l10 p0 p1 p2 r7 0 h).bind fun x59 => some x59)))))
set_option maxRecDepth 100000 in
theorem ok_116 {L : Nat} {xs : Nat → Int32} {p0 : Option Nat} {p1 : Int} {p2 : Option Nat} {h : jH} {o : jH} (e : jd_116 p0 p1 p2 h = some o) : mm_Runs (mm_xt L xs) 3 116 ([jR p0, jI p1, jR p2].map jcv) (jaH h) (.inl (none, jaH o)) := by
  refine ey_run0 _ mt_116 (jsl_s rfl) ?_
  unfold jd_116 at e
  refine ey_aload_n (cd_116 rfl) rfl ?_
  obtain ⟨a1, e2, e⟩ := jbind e
  refine ey_rs (s0 := [jR p0]) (s1 := [jR (some a1)]) (by rw [e2]) ?_
  obtain ⟨r3, e4, e⟩ := jbind e
  refine ey_getf_r (cd_116 rfl) mt_116 rfl rfl rfl e4 ?_
  refine ey_iload_n (cd_116 rfl) rfl ?_
  obtain ⟨a5, e6, e⟩ := jbind e
  refine ey_rs (s0 := [jI p1, jR r3]) (s1 := [jI p1, jR (some a5)]) (by rw [e6]) ?_
  obtain ⟨r7, e8, e⟩ := jbind e
  refine ey_aald (cd_116 rfl) (by decide) e8 ?_
  refine ey_astore_n (cd_116 rfl) mt_116 rfl ?_
  refine ey_iconst (cd_116 rfl) ?_
  refine ey_istore (cd_116 rfl) mt_116 rfl ?_
  obtain ⟨x59, e60, e⟩ := jbind e
  refine jk_116_l10 e60 ?_ (jup (jup (jlf (jla 0 [jR p0, jI p1, jR p2])) 3 (jR r7)) 4 (jI 0)) rfl rfl (jup_o rfl (jup_pr (lv := (jlf (jla 0 [jR p0, jI p1, jR p2]))) (j := 2) (v := jR r7) (z := p2) rfl)) (jup_pr (lv := (jup (jlf (jla 0 [jR p0, jI p1, jR p2])) 3 (jR r7))) (j := 3) (v := jI 0) (z := r7) rfl) rfl
  intro lv 
  cases e
  exact ey_retv (cd_116 rfl) mt_116 rfl
theorem cd_118 {pc : Nat} {i : Instr × Nat} (h : mm_lk mm_c118 pc = some i) : mm_cd 118 pc = some i := h
theorem mt_118 : mm_MT 118 = (8, 7, none, 4, 0, []) := rfl
def jd_118_s6 (this : Nat) (x1 : Option Nat) (x2 : Int) (x3 : Int) (x4 : Int) (x5 : Int) (x6 : Int) (h : jH) : Option ((Int × Int) ⊕ Int) :=
  (if 6 ≤ (jw x6) then some (.inr x5) else ((jgr h this 8 1).bind fun r2 => ((r2).bind fun a4 => ((jck h a4 5).bind fun u6 => ((jd_89 a4 x6 h).bind fun v8 => some (.inl ((x5 + v8), (x6 + 1))))))))
set_option maxRecDepth 100000 in
theorem jk_118_s6 {L : Nat} {xs : Nat → Int32} {this : Nat} {x1 : Option Nat} {x2 : Int} {x3 : Int} {x4 : Int} {x5 : Int} {x6 : Int} {h : jH} {o : ((Int × Int) ⊕ Int)} {r : mm_R} (e : jd_118_s6 this x1 x2 x3 x4 x5 x6 h = some o) (K : jsm (fun s => (∀ lv : jL, lv 0 = some (jR (some this)) → lv 1 = some (jR x1) → lv 2 = some (jI x2) → lv 3 = some (jI x3) → lv 4 = some (jI x4) → lv 5 = some (jI s.1) → lv 6 = some (jI s.2) → ey (mm_xt L xs) 1 118 6 lv [] h r)) (fun x => (∀ lv : jL, lv 0 = some (jR (some this)) → lv 1 = some (jR x1) → lv 2 = some (jI x2) → lv 3 = some (jI x3) → lv 4 = some (jI x4) → lv 5 = some (jI x) → ey (mm_xt L xs) 1 118 33 lv [] h r)) o) : ∀ lv : jL, lv 0 = some (jR (some this)) → lv 1 = some (jR x1) → lv 2 = some (jI x2) → lv 3 = some (jI x3) → lv 4 = some (jI x4) → lv 5 = some (jI x5) → lv 6 = some (jI x6) → ey (mm_xt L xs) 1 118 6 lv [] h r := by
  intro lv f0 f1 f2 f3 f4 f5 f6
  unfold jd_118_s6 at e
  refine ey_iload (cd_118 rfl) f6 ?_
  refine ey_bipush (cd_118 rfl) (by decide) ?_
  by_cases q1 : 6 ≤ (jw x6)
  · rw [if_pos q1] at e
    refine ey_cge (cd_118 rfl) rfl rfl (show jw 6 = 6 from by decide) q1 ?_
    cases e
    exact K lv f0 f1 f2 f3 f4 f5
  · rw [if_neg q1] at e
    refine ey_nge (cd_118 rfl) rfl rfl (show jw 6 = 6 from by decide) q1 ?_
    refine ey_iload (cd_118 rfl) f5 ?_
    refine ey_aload_n (cd_118 rfl) f0 ?_
    obtain ⟨r2, e3, e⟩ := jbind e
    refine ey_getf_r (cd_118 rfl) mt_118 rfl rfl rfl e3 ?_
    refine ey_iload (cd_118 rfl) f6 ?_
    obtain ⟨a4, e5, e⟩ := jbind e
    refine ey_rs (s0 := [jI x6, jR r2, jI x5]) (s1 := [jI x6, jR (some a4), jI x5]) (by rw [e5]) ?_
    obtain ⟨u6, e7, e⟩ := jbind e
    obtain ⟨v8, e9, e⟩ := jbind e
    refine ey_cv (s0 := [jI x6, jR (some a4), jI x5]) (s1 := [jI x5]) (st' := [jI v8, jI x5]) (cd_118 rfl) mt_118 mt_89 rfl rfl rfl (jck_s e7) rfl (jsml_s rfl) rfl (ok_89 e9) ?_
    refine ey_iadd (cd_118 rfl) ?_
    refine ey_istore (cd_118 rfl) mt_118 rfl ?_
    refine ey_iinc (cd_118 rfl) mt_118 rfl f6 ?_
    refine ey_goto (cd_118 rfl) rfl ?_
    cases e
    exact K (jup (jup lv 5 (jI (x5 + v8))) 6 (jI (x6 + 1))) f0 f1 f2 f3 (jup_o rfl (jup_pi (lv := lv) (j := 4) (v := jI (x5 + v8)) (z := x4) f4)) (jup_pi (lv := (jup lv 5 (jI (x5 + v8)))) (j := 5) (v := jI (x6 + 1)) (z := (x5 + v8)) rfl) rfl
def jd_118_l6 (this : Nat) (x1 : Option Nat) (x2 : Int) (x3 : Int) (x4 : Int) (x5 : Int) (x6 : Int) (h : jH) : Option Int :=
  jlp (fun s : (Int × Int) => jd_118_s6 this x1 x2 x3 x4 s.1 s.2 h) jfu (x5, x6)
theorem jk_118_l6 {L : Nat} {xs : Nat → Int32} {this : Nat} {x1 : Option Nat} {x2 : Int} {x3 : Int} {x4 : Int} {x5 : Int} {x6 : Int} {h : jH} {x : Int} {r : mm_R} (e : jd_118_l6 this x1 x2 x3 x4 x5 x6 h = some x) (K : (∀ lv : jL, lv 0 = some (jR (some this)) → lv 1 = some (jR x1) → lv 2 = some (jI x2) → lv 3 = some (jI x3) → lv 4 = some (jI x4) → lv 5 = some (jI x) → ey (mm_xt L xs) 1 118 33 lv [] h r)) : ∀ lv : jL, lv 0 = some (jR (some this)) → lv 1 = some (jR x1) → lv 2 = some (jI x2) → lv 3 = some (jI x3) → lv 4 = some (jI x4) → lv 5 = some (jI x5) → lv 6 = some (jI x6) → ey (mm_xt L xs) 1 118 6 lv [] h r := by
  unfold jd_118_l6 at e
  exact jlp_ok2 (P := fun s => ∀ lv : jL, lv 0 = some (jR (some this)) → lv 1 = some (jR x1) → lv 2 = some (jI x2) → lv 3 = some (jI x3) → lv 4 = some (jI x4) → lv 5 = some (jI s.1) → lv 6 = some (jI s.2) → ey (mm_xt L xs) 1 118 6 lv [] h r) (Q := fun x => (∀ lv : jL, lv 0 = some (jR (some this)) → lv 1 = some (jR x1) → lv 2 = some (jI x2) → lv 3 = some (jI x3) → lv 4 = some (jI x4) → lv 5 = some (jI x) → ey (mm_xt L xs) 1 118 33 lv [] h r)) (fun s q hq hk => jk_118_s6 hq hk) jfu _ x e K
def jd_118_s40 (this : Nat) (x1 : Option Nat) (x2 : Int) (x4 : Int) (x5 : Int) (x6 : Int) (h : jH) : Option ((Int × jH) ⊕ jH) :=
  (if 4 ≤ (jw x6) then some (.inr h) else ((jgr h this 8 1).bind fun r17 => ((r17).bind fun a19 => ((jgr h a19 5 11).bind fun r21 => ((r21).bind fun a23 => ((jai h a23 x6).bind fun v25 => ((x1).bind fun a27 => ((jta h a27 0 ((x2 + 1) + x6) v25).bind fun h29 => some (.inl ((x6 + 1), h29))))))))))
set_option maxRecDepth 100000 in
theorem jk_118_s40 {L : Nat} {xs : Nat → Int32} {this : Nat} {x1 : Option Nat} {x2 : Int} {x4 : Int} {x5 : Int} {x6 : Int} {h : jH} {o : ((Int × jH) ⊕ jH)} {r : mm_R} (e : jd_118_s40 this x1 x2 x4 x5 x6 h = some o) (K : jsm (fun s => (∀ lv : jL, lv 0 = some (jR (some this)) → lv 1 = some (jR x1) → lv 2 = some (jI x2) → lv 4 = some (jI x4) → lv 5 = some (jI x5) → lv 6 = some (jI s.1) → ey (mm_xt L xs) 1 118 40 lv [] s.2 r)) (fun x => (∀ lv : jL, lv 1 = some (jR x1) → lv 2 = some (jI x2) → lv 4 = some (jI x4) → lv 5 = some (jI x5) → ey (mm_xt L xs) 1 118 70 lv [] x r)) o) : ∀ lv : jL, lv 0 = some (jR (some this)) → lv 1 = some (jR x1) → lv 2 = some (jI x2) → lv 4 = some (jI x4) → lv 5 = some (jI x5) → lv 6 = some (jI x6) → ey (mm_xt L xs) 1 118 40 lv [] h r := by
  intro lv f0 f1 f2 f4 f5 f6
  unfold jd_118_s40 at e
  refine ey_iload (cd_118 rfl) f6 ?_
  refine ey_iconst (cd_118 rfl) ?_
  by_cases q16 : 4 ≤ (jw x6)
  · rw [if_pos q16] at e
    refine ey_cge (cd_118 rfl) rfl rfl (show jw 4 = 4 from by decide) q16 ?_
    cases e
    exact K lv f1 f2 f4 f5
  · rw [if_neg q16] at e
    refine ey_nge (cd_118 rfl) rfl rfl (show jw 4 = 4 from by decide) q16 ?_
    refine ey_aload_n (cd_118 rfl) f1 ?_
    refine ey_iload_n (cd_118 rfl) f2 ?_
    refine ey_iconst (cd_118 rfl) ?_
    refine ey_iadd (cd_118 rfl) ?_
    refine ey_iload (cd_118 rfl) f6 ?_
    refine ey_iadd (cd_118 rfl) ?_
    refine ey_aload_n (cd_118 rfl) f0 ?_
    obtain ⟨r17, e18, e⟩ := jbind e
    refine ey_getf_r (cd_118 rfl) mt_118 rfl rfl rfl e18 ?_
    obtain ⟨a19, e20, e⟩ := jbind e
    refine ey_rs (s0 := [jR r17, jI ((x2 + 1) + x6), jR x1]) (s1 := [jR (some a19), jI ((x2 + 1) + x6), jR x1]) (by rw [e20]) ?_
    obtain ⟨r21, e22, e⟩ := jbind e
    refine ey_getf_r (cd_118 rfl) mt_118 rfl rfl rfl e22 ?_
    refine ey_iload (cd_118 rfl) f6 ?_
    obtain ⟨a23, e24, e⟩ := jbind e
    refine ey_rs (s0 := [jI x6, jR r21, jI ((x2 + 1) + x6), jR x1]) (s1 := [jI x6, jR (some a23), jI ((x2 + 1) + x6), jR x1]) (by rw [e24]) ?_
    obtain ⟨v25, e26, e⟩ := jbind e
    refine ey_iald (cd_118 rfl) e26 ?_
    obtain ⟨a27, e28, e⟩ := jbind e
    refine ey_rs (s0 := [jI v25, jI ((x2 + 1) + x6), jR x1]) (s1 := [jI v25, jI ((x2 + 1) + x6), jR (some a27)]) (by rw [e28]) ?_
    obtain ⟨h29, e30, e⟩ := jbind e
    refine ey_iast (cd_118 rfl) e30 ?_
    refine ey_iinc (cd_118 rfl) mt_118 rfl f6 ?_
    refine ey_goto (cd_118 rfl) rfl ?_
    cases e
    exact K (jup lv 6 (jI (x6 + 1))) f0 f1 f2 f4 (jup_pi (lv := lv) (j := 5) (v := jI (x6 + 1)) (z := x5) f5) rfl
def jd_118_l40 (this : Nat) (x1 : Option Nat) (x2 : Int) (x4 : Int) (x5 : Int) (x6 : Int) (h : jH) : Option jH :=
  jlp (fun s : (Int × jH) => jd_118_s40 this x1 x2 x4 x5 s.1 s.2) jfu (x6, h)
theorem jk_118_l40 {L : Nat} {xs : Nat → Int32} {this : Nat} {x1 : Option Nat} {x2 : Int} {x4 : Int} {x5 : Int} {x6 : Int} {h : jH} {x : jH} {r : mm_R} (e : jd_118_l40 this x1 x2 x4 x5 x6 h = some x) (K : (∀ lv : jL, lv 1 = some (jR x1) → lv 2 = some (jI x2) → lv 4 = some (jI x4) → lv 5 = some (jI x5) → ey (mm_xt L xs) 1 118 70 lv [] x r)) : ∀ lv : jL, lv 0 = some (jR (some this)) → lv 1 = some (jR x1) → lv 2 = some (jI x2) → lv 4 = some (jI x4) → lv 5 = some (jI x5) → lv 6 = some (jI x6) → ey (mm_xt L xs) 1 118 40 lv [] h r := by
  unfold jd_118_l40 at e
  exact jlp_ok2 (P := fun s => ∀ lv : jL, lv 0 = some (jR (some this)) → lv 1 = some (jR x1) → lv 2 = some (jI x2) → lv 4 = some (jI x4) → lv 5 = some (jI x5) → lv 6 = some (jI s.1) → ey (mm_xt L xs) 1 118 40 lv [] s.2 r) (Q := fun x => (∀ lv : jL, lv 1 = some (jR x1) → lv 2 = some (jI x2) → lv 4 = some (jI x4) → lv 5 = some (jI x5) → ey (mm_xt L xs) 1 118 70 lv [] x r)) (fun s q hq hk => jk_118_s40 hq hk) jfu _ x e K
def jd_118 (this : Nat) (p0 : Option Nat) (p1 : Int) (p2 : Int) (p3 : Int) (h : jH) : Option jH :=
  ((jd_118_l6 this p0 p1 p2 p3 0 0 h).bind fun x10 => ((p0).bind fun a12 => ((jta h a12 0 p1 p2).bind fun h14 => ((jd_118_l40 this p0 p1 p3 x10 0 h14).bind fun x31 => ((p0).bind fun a33 => ((jta x31 a33 0 (p1 + 5) x10).bind fun h35 => ((p0).bind fun a37 => ((jta h35 a37 0 (p1 + 6) p3).bind fun h39 => some h39))))))))
set_option maxRecDepth 100000 in
theorem ok_118 {L : Nat} {xs : Nat → Int32} {this : Nat} {p0 : Option Nat} {p1 : Int} {p2 : Int} {p3 : Int} {h : jH} {o : jH} (e : jd_118 this p0 p1 p2 p3 h = some o) : mm_Runs (mm_xt L xs) 2 118 ([jR (some this), jR p0, jI p1, jI p2, jI p3].map jcv) (jaH h) (.inl (none, jaH o)) := by
  refine ey_run0 _ mt_118 (jsl_s rfl) ?_
  unfold jd_118 at e
  refine ey_iconst (cd_118 rfl) ?_
  refine ey_istore (cd_118 rfl) mt_118 rfl ?_
  refine ey_iconst (cd_118 rfl) ?_
  refine ey_istore (cd_118 rfl) mt_118 rfl ?_
  obtain ⟨x10, e11, e⟩ := jbind e
  refine jk_118_l6 e11 ?_ (jup (jup (jlf (jla 0 [jR (some this), jR p0, jI p1, jI p2, jI p3])) 5 (jI 0)) 6 (jI 0)) rfl rfl rfl rfl (jup_o rfl (jup_pi (lv := (jlf (jla 0 [jR (some this), jR p0, jI p1, jI p2, jI p3]))) (j := 4) (v := jI 0) (z := p3) rfl)) (jup_pi (lv := (jup (jlf (jla 0 [jR (some this), jR p0, jI p1, jI p2, jI p3])) 5 (jI 0))) (j := 5) (v := jI 0) (z := 0) rfl) rfl
  intro lv g0 g1 g2 g3 g4 g5
  refine ey_aload_n (cd_118 rfl) g1 ?_
  refine ey_iload_n (cd_118 rfl) g2 ?_
  refine ey_iload_n (cd_118 rfl) g3 ?_
  obtain ⟨a12, e13, e⟩ := jbind e
  refine ey_rs (s0 := [jI p2, jI p1, jR p0]) (s1 := [jI p2, jI p1, jR (some a12)]) (by rw [e13]) ?_
  obtain ⟨h14, e15, e⟩ := jbind e
  refine ey_iast (cd_118 rfl) e15 ?_
  refine ey_iconst (cd_118 rfl) ?_
  refine ey_istore (cd_118 rfl) mt_118 rfl ?_
  obtain ⟨x31, e32, e⟩ := jbind e
  refine jk_118_l40 e32 ?_ (jup lv 6 (jI 0)) g0 g1 g2 g4 (jup_pi (lv := lv) (j := 5) (v := jI 0) (z := x10) g5) rfl
  intro lv g1 g2 g4 g5
  refine ey_aload_n (cd_118 rfl) g1 ?_
  refine ey_iload_n (cd_118 rfl) g2 ?_
  refine ey_iconst (cd_118 rfl) ?_
  refine ey_iadd (cd_118 rfl) ?_
  refine ey_iload (cd_118 rfl) g5 ?_
  obtain ⟨a33, e34, e⟩ := jbind e
  refine ey_rs (s0 := [jI x10, jI (p1 + 5), jR p0]) (s1 := [jI x10, jI (p1 + 5), jR (some a33)]) (by rw [e34]) ?_
  obtain ⟨h35, e36, e⟩ := jbind e
  refine ey_iast (cd_118 rfl) e36 ?_
  refine ey_aload_n (cd_118 rfl) g1 ?_
  refine ey_iload_n (cd_118 rfl) g2 ?_
  refine ey_bipush (cd_118 rfl) (by decide) ?_
  refine ey_iadd (cd_118 rfl) ?_
  refine ey_iload (cd_118 rfl) g4 ?_
  obtain ⟨a37, e38, e⟩ := jbind e
  refine ey_rs (s0 := [jI p3, jI (p1 + 6), jR p0]) (s1 := [jI p3, jI (p1 + 6), jR (some a37)]) (by rw [e38]) ?_
  obtain ⟨h39, e40, e⟩ := jbind e
  refine ey_iast (cd_118 rfl) e40 ?_
  cases e
  exact ey_retv (cd_118 rfl) mt_118 rfl
theorem cd_120 {pc : Nat} {i : Instr × Nat} (h : mm_lk mm_c120 pc = some i) : mm_cd 120 pc = some i := h
theorem mt_120 : mm_MT 120 = (8, 8, some .int, 1, 0, []) := rfl
def jd_120_s33 (this : Nat) (x1 : Int) (x2 : Int) (x3 : Int) (x4 : Int) (h : jH) : Option ((Int × Int × jH) ⊕ (jH ⊕ (jH ⊕ (jH ⊕ (jH ⊕ jH))))) :=
  (if (jw x2) ≤ (jw x4) then some (.inr (.inr (.inr (.inr (.inr h))))) else ((jgr h this 8 0).bind fun r12 => ((r12).bind fun a14 => ((jck h a14 0).bind fun u16 => ((jd_2 a14 h).bind fun q18 => (if 0 ≤ (jw q18.1) then (if (jw (x3 + q18.1)) ≤ 15 then ((jgr q18.2 this 8 0).bind fun r22 => ((r22).bind fun a24 => ((jck q18.2 a24 0).bind fun u26 => ((jd_2 a24 q18.2).bind fun q28 => (if 0 ≤ (jw q28.1) then (if (jw (jd_14 q28.1)) = 0 then some (.inr (.inr (.inr (.inr (.inl q28.2))))) else (if (jw (jd_14 q28.1)) < (-4095) then some (.inr (.inr (.inr (.inr (.inl q28.2))))) else (if (jw (jd_14 q28.1)) ≤ 4095 then ((jgr q28.2 this 8 1).bind fun r34 => ((r34).bind fun a36 => ((jgr q28.2 a36 5 10).bind fun r38 => ((r38).bind fun a40 => ((jta q28.2 a40 0 ((16 * x1) + (x3 + q18.1)) (jd_14 q28.1)).bind fun h42 => some (.inl (((x3 + q18.1) + 1), (x4 + 1), h42))))))) else some (.inr (.inr (.inr (.inr (.inl q28.2)))))))) else some (.inr (.inr (.inr (.inl q28.2))))))))) else some (.inr (.inr (.inl q18.2)))) else some (.inr (.inl q18.2))))))))
set_option maxRecDepth 100000 in
theorem jk_120_s33 {L : Nat} {xs : Nat → Int32} {this : Nat} {x1 : Int} {x2 : Int} {x3 : Int} {x4 : Int} {h : jH} {o : ((Int × Int × jH) ⊕ (jH ⊕ (jH ⊕ (jH ⊕ (jH ⊕ jH)))))} {r : mm_R} (e : jd_120_s33 this x1 x2 x3 x4 h = some o) (K : jsm (fun s => (∀ lv : jL, lv 0 = some (jR (some this)) → lv 1 = some (jI x1) → lv 2 = some (jI x2) → lv 3 = some (jI s.1) → lv 4 = some (jI s.2.1) → ey (mm_xt L xs) 2 120 33 lv [] s.2.2 r)) (fun x => (jsm (fun y => (∀ lv : jL, lv 0 = some (jR (some this)) → ey (mm_xt L xs) 2 120 53 lv [] y r)) (fun z => (jsm (fun y => (∀ lv : jL, ey (mm_xt L xs) 2 120 72 lv [] y r)) (fun z => (jsm (fun y => (∀ lv : jL, lv 0 = some (jR (some this)) → ey (mm_xt L xs) 2 120 88 lv [] y r)) (fun z => (jsm (fun y => (∀ lv : jL, ey (mm_xt L xs) 2 120 124 lv [] y r)) (fun z => (∀ lv : jL, ey (mm_xt L xs) 2 120 151 lv [] z r)) z)) z)) z)) x)) o) : ∀ lv : jL, lv 0 = some (jR (some this)) → lv 1 = some (jI x1) → lv 2 = some (jI x2) → lv 3 = some (jI x3) → lv 4 = some (jI x4) → ey (mm_xt L xs) 2 120 33 lv [] h r := by
  intro lv f0 f1 f2 f3 f4
  unfold jd_120_s33 at e
  refine ey_iload (cd_120 rfl) f4 ?_
  refine ey_iload_n (cd_120 rfl) f2 ?_
  by_cases q11 : (jw x2) ≤ (jw x4)
  · rw [if_pos q11] at e
    refine ey_cge (cd_120 rfl) rfl rfl rfl q11 ?_
    cases e
    exact K lv 
  · rw [if_neg q11] at e
    refine ey_nge (cd_120 rfl) rfl rfl rfl q11 ?_
    refine ey_aload_n (cd_120 rfl) f0 ?_
    obtain ⟨r12, e13, e⟩ := jbind e
    refine ey_getf_r (cd_120 rfl) mt_120 rfl rfl rfl e13 ?_
    obtain ⟨a14, e15, e⟩ := jbind e
    refine ey_rs (s0 := [jR r12]) (s1 := [jR (some a14)]) (by rw [e15]) ?_
    obtain ⟨u16, e17, e⟩ := jbind e
    obtain ⟨q18, e19, e⟩ := jbind e
    refine ey_cv (s0 := [jR (some a14)]) (s1 := []) (st' := [jI q18.1]) (cd_120 rfl) mt_120 mt_2 rfl rfl rfl (jck_s e17) rfl (jsml_s rfl) rfl (ok_2 e19) ?_
    refine ey_istore (cd_120 rfl) mt_120 rfl ?_
    refine ey_iload (cd_120 rfl) rfl ?_
    by_cases q20 : 0 ≤ (jw q18.1)
    · rw [if_pos q20] at e
      refine ey_zge (cd_120 rfl) rfl rfl q20 ?_
      refine ey_iload_n (cd_120 rfl) f3 ?_
      refine ey_iload (cd_120 rfl) rfl ?_
      refine ey_iadd (cd_120 rfl) ?_
      refine ey_istore_n (cd_120 rfl) mt_120 rfl ?_
      refine ey_iload_n (cd_120 rfl) rfl ?_
      refine ey_bipush (cd_120 rfl) (by decide) ?_
      by_cases q21 : (jw (x3 + q18.1)) ≤ 15
      · rw [if_pos q21] at e
        refine ey_cle (cd_120 rfl) rfl rfl (show jw 15 = 15 from by decide) q21 ?_
        refine ey_aload_n (cd_120 rfl) f0 ?_
        obtain ⟨r22, e23, e⟩ := jbind e
        refine ey_getf_r (cd_120 rfl) mt_120 rfl rfl rfl e23 ?_
        obtain ⟨a24, e25, e⟩ := jbind e
        refine ey_rs (s0 := [jR r22]) (s1 := [jR (some a24)]) (by rw [e25]) ?_
        obtain ⟨u26, e27, e⟩ := jbind e
        obtain ⟨q28, e29, e⟩ := jbind e
        refine ey_cv (s0 := [jR (some a24)]) (s1 := []) (st' := [jI q28.1]) (cd_120 rfl) mt_120 mt_2 rfl rfl rfl (jck_s e27) rfl (jsml_s rfl) rfl (ok_2 e29) ?_
        refine ey_istore (cd_120 rfl) mt_120 rfl ?_
        refine ey_iload (cd_120 rfl) rfl ?_
        by_cases q30 : 0 ≤ (jw q28.1)
        · rw [if_pos q30] at e
          refine ey_zge (cd_120 rfl) rfl rfl q30 ?_
          refine ey_iload (cd_120 rfl) rfl ?_
          refine ey_cs (s0 := [jI q28.1]) (s1 := []) (st' := [jI (jd_14 q28.1)]) (cd_120 rfl) mt_120 mt_14 rfl (by decide) rfl rfl (jsml_s rfl) rfl (mm_Runs.up (d := 1) (by decide) (ok_14 )) ?_
          refine ey_istore (cd_120 rfl) mt_120 rfl ?_
          refine ey_iload (cd_120 rfl) rfl ?_
          by_cases q31 : (jw (jd_14 q28.1)) = 0
          · rw [if_pos q31] at e
            refine ey_zeq (cd_120 rfl) rfl rfl q31 ?_
            cases e
            exact K (jup (jup (jup (jup lv 5 (jI q18.1)) 3 (jI (x3 + q18.1))) 6 (jI q28.1)) 7 (jI (jd_14 q28.1))) 
          · rw [if_neg q31] at e
            refine ey_yeq (cd_120 rfl) rfl rfl q31 ?_
            refine ey_iload (cd_120 rfl) rfl ?_
            refine ey_sipush (cd_120 rfl) (by decide) ?_
            by_cases q32 : (jw (jd_14 q28.1)) < (-4095)
            · rw [if_pos q32] at e
              refine ey_clt (cd_120 rfl) rfl rfl (show jw (-4095) = (-4095) from by decide) q32 ?_
              cases e
              exact K (jup (jup (jup (jup lv 5 (jI q18.1)) 3 (jI (x3 + q18.1))) 6 (jI q28.1)) 7 (jI (jd_14 q28.1))) 
            · rw [if_neg q32] at e
              refine ey_nlt (cd_120 rfl) rfl rfl (show jw (-4095) = (-4095) from by decide) q32 ?_
              refine ey_iload (cd_120 rfl) rfl ?_
              refine ey_sipush (cd_120 rfl) (by decide) ?_
              by_cases q33 : (jw (jd_14 q28.1)) ≤ 4095
              · rw [if_pos q33] at e
                refine ey_cle (cd_120 rfl) rfl rfl (show jw 4095 = 4095 from by decide) q33 ?_
                refine ey_aload_n (cd_120 rfl) f0 ?_
                obtain ⟨r34, e35, e⟩ := jbind e
                refine ey_getf_r (cd_120 rfl) mt_120 rfl rfl rfl e35 ?_
                obtain ⟨a36, e37, e⟩ := jbind e
                refine ey_rs (s0 := [jR r34]) (s1 := [jR (some a36)]) (by rw [e37]) ?_
                obtain ⟨r38, e39, e⟩ := jbind e
                refine ey_getf_r (cd_120 rfl) mt_120 rfl rfl rfl e39 ?_
                refine ey_bipush (cd_120 rfl) (by decide) ?_
                refine ey_iload_n (cd_120 rfl) f1 ?_
                refine ey_imul (cd_120 rfl) ?_
                refine ey_iload_n (cd_120 rfl) rfl ?_
                refine ey_iadd (cd_120 rfl) ?_
                refine ey_iload (cd_120 rfl) rfl ?_
                obtain ⟨a40, e41, e⟩ := jbind e
                refine ey_rs (s0 := [jI (jd_14 q28.1), jI ((16 * x1) + (x3 + q18.1)), jR r38]) (s1 := [jI (jd_14 q28.1), jI ((16 * x1) + (x3 + q18.1)), jR (some a40)]) (by rw [e41]) ?_
                obtain ⟨h42, e43, e⟩ := jbind e
                refine ey_iast (cd_120 rfl) e43 ?_
                refine ey_iinc (cd_120 rfl) mt_120 rfl rfl ?_
                refine ey_iinc (cd_120 rfl) mt_120 rfl (jup_o rfl (jup_o rfl (jup_o rfl (jup_o rfl (jup_pi (lv := lv) (j := 4) (v := jI q18.1) (z := x4) f4))))) ?_
                refine ey_goto (cd_120 rfl) rfl ?_
                cases e
                exact K (jup (jup (jup (jup (jup (jup lv 5 (jI q18.1)) 3 (jI (x3 + q18.1))) 6 (jI q28.1)) 7 (jI (jd_14 q28.1))) 3 (jI ((x3 + q18.1) + 1))) 4 (jI (x4 + 1))) f0 f1 (jup_o rfl (jup_pi (lv := (jup (jup (jup (jup lv 5 (jI q18.1)) 3 (jI (x3 + q18.1))) 6 (jI q28.1)) 7 (jI (jd_14 q28.1)))) (j := 2) (v := jI ((x3 + q18.1) + 1)) (z := x2) (jup_o rfl (jup_o rfl (jup_pi (lv := (jup lv 5 (jI q18.1))) (j := 2) (v := jI (x3 + q18.1)) (z := x2) f2))))) (jup_pi (lv := (jup (jup (jup (jup (jup lv 5 (jI q18.1)) 3 (jI (x3 + q18.1))) 6 (jI q28.1)) 7 (jI (jd_14 q28.1))) 3 (jI ((x3 + q18.1) + 1)))) (j := 3) (v := jI (x4 + 1)) (z := ((x3 + q18.1) + 1)) rfl) rfl
              · rw [if_neg q33] at e
                refine ey_nle (cd_120 rfl) rfl rfl (show jw 4095 = 4095 from by decide) q33 ?_
                cases e
                exact K (jup (jup (jup (jup lv 5 (jI q18.1)) 3 (jI (x3 + q18.1))) 6 (jI q28.1)) 7 (jI (jd_14 q28.1))) 
        · rw [if_neg q30] at e
          refine ey_yge (cd_120 rfl) rfl rfl q30 ?_
          cases e
          exact K (jup (jup (jup lv 5 (jI q18.1)) 3 (jI (x3 + q18.1))) 6 (jI q28.1)) f0
      · rw [if_neg q21] at e
        refine ey_nle (cd_120 rfl) rfl rfl (show jw 15 = 15 from by decide) q21 ?_
        cases e
        exact K (jup (jup lv 5 (jI q18.1)) 3 (jI (x3 + q18.1))) 
    · rw [if_neg q20] at e
      refine ey_yge (cd_120 rfl) rfl rfl q20 ?_
      cases e
      exact K (jup lv 5 (jI q18.1)) f0
def jd_120_l33 (this : Nat) (x1 : Int) (x2 : Int) (x3 : Int) (x4 : Int) (h : jH) : Option (jH ⊕ (jH ⊕ (jH ⊕ (jH ⊕ jH)))) :=
  jlp (fun s : (Int × Int × jH) => jd_120_s33 this x1 x2 s.1 s.2.1 s.2.2) jfu (x3, x4, h)
theorem jk_120_l33 {L : Nat} {xs : Nat → Int32} {this : Nat} {x1 : Int} {x2 : Int} {x3 : Int} {x4 : Int} {h : jH} {x : (jH ⊕ (jH ⊕ (jH ⊕ (jH ⊕ jH))))} {r : mm_R} (e : jd_120_l33 this x1 x2 x3 x4 h = some x) (K : (jsm (fun y => (∀ lv : jL, lv 0 = some (jR (some this)) → ey (mm_xt L xs) 2 120 53 lv [] y r)) (fun z => (jsm (fun y => (∀ lv : jL, ey (mm_xt L xs) 2 120 72 lv [] y r)) (fun z => (jsm (fun y => (∀ lv : jL, lv 0 = some (jR (some this)) → ey (mm_xt L xs) 2 120 88 lv [] y r)) (fun z => (jsm (fun y => (∀ lv : jL, ey (mm_xt L xs) 2 120 124 lv [] y r)) (fun z => (∀ lv : jL, ey (mm_xt L xs) 2 120 151 lv [] z r)) z)) z)) z)) x)) : ∀ lv : jL, lv 0 = some (jR (some this)) → lv 1 = some (jI x1) → lv 2 = some (jI x2) → lv 3 = some (jI x3) → lv 4 = some (jI x4) → ey (mm_xt L xs) 2 120 33 lv [] h r := by
  unfold jd_120_l33 at e
  exact jlp_ok2 (P := fun s => ∀ lv : jL, lv 0 = some (jR (some this)) → lv 1 = some (jI x1) → lv 2 = some (jI x2) → lv 3 = some (jI s.1) → lv 4 = some (jI s.2.1) → ey (mm_xt L xs) 2 120 33 lv [] s.2.2 r) (Q := fun x => (jsm (fun y => (∀ lv : jL, lv 0 = some (jR (some this)) → ey (mm_xt L xs) 2 120 53 lv [] y r)) (fun z => (jsm (fun y => (∀ lv : jL, ey (mm_xt L xs) 2 120 72 lv [] y r)) (fun z => (jsm (fun y => (∀ lv : jL, lv 0 = some (jR (some this)) → ey (mm_xt L xs) 2 120 88 lv [] y r)) (fun z => (jsm (fun y => (∀ lv : jL, ey (mm_xt L xs) 2 120 124 lv [] y r)) (fun z => (∀ lv : jL, ey (mm_xt L xs) 2 120 151 lv [] z r)) z)) z)) z)) x)) (fun s q hq hk => jk_120_s33 hq hk) jfu _ x e K
def jd_120 (this : Nat) (p0 : Int) (h : jH) : Option (Int × jH) :=
  ((jgr h this 8 0).bind fun r1 => ((r1).bind fun a3 => ((jck h a3 0).bind fun u5 => ((jd_2 a3 h).bind fun q7 => (if 0 ≤ (jw q7.1) then (if (jw q7.1) ≤ 16 then ((jd_120_l33 this p0 q7.1 0 0 q7.2).bind fun x44 => jse x44 (fun y46 => ((jgr y46 this 8 0).bind fun r48 => ((r48).bind fun a50 => ((jgi y46 a50 0 3).bind fun v52 => some (v52, y46))))) (fun y47 => jse y47 (fun y54 => some (4, y54)) (fun y55 => jse y55 (fun y56 => ((jgr y56 this 8 0).bind fun r58 => ((r58).bind fun a60 => ((jgi y56 a60 0 3).bind fun v62 => some (v62, y56))))) (fun y57 => jse y57 (fun y64 => some (5, y64)) (fun y65 => some (0, y65)))))) else some (4, q7.2)) else ((jgr q7.2 this 8 0).bind fun r66 => ((r66).bind fun a68 => ((jgi q7.2 a68 0 3).bind fun v70 => some (v70, q7.2)))))))))
set_option maxRecDepth 100000 in
theorem ok_120 {L : Nat} {xs : Nat → Int32} {this : Nat} {p0 : Int} {h : jH} {o : (Int × jH)} (e : jd_120 this p0 h = some o) : mm_Runs (mm_xt L xs) 3 120 ([jR (some this), jI p0].map jcv) (jaH h) (.inl (some (jcv (jI o.1)), jaH o.2)) := by
  refine ey_run0 _ mt_120 (jsl_s rfl) ?_
  unfold jd_120 at e
  refine ey_aload_n (cd_120 rfl) rfl ?_
  obtain ⟨r1, e2, e⟩ := jbind e
  refine ey_getf_r (cd_120 rfl) mt_120 rfl rfl rfl e2 ?_
  obtain ⟨a3, e4, e⟩ := jbind e
  refine ey_rs (s0 := [jR r1]) (s1 := [jR (some a3)]) (by rw [e4]) ?_
  obtain ⟨u5, e6, e⟩ := jbind e
  obtain ⟨q7, e8, e⟩ := jbind e
  refine ey_cv (s0 := [jR (some a3)]) (s1 := []) (st' := [jI q7.1]) (cd_120 rfl) mt_120 mt_2 rfl rfl rfl (jck_s e6) rfl (jsml_s rfl) rfl (ok_2 e8) ?_
  refine ey_istore_n (cd_120 rfl) mt_120 rfl ?_
  refine ey_iload_n (cd_120 rfl) rfl ?_
  by_cases q9 : 0 ≤ (jw q7.1)
  · rw [if_pos q9] at e
    refine ey_zge (cd_120 rfl) rfl rfl q9 ?_
    refine ey_iload_n (cd_120 rfl) rfl ?_
    refine ey_bipush (cd_120 rfl) (by decide) ?_
    by_cases q10 : (jw q7.1) ≤ 16
    · rw [if_pos q10] at e
      refine ey_cle (cd_120 rfl) rfl rfl (show jw 16 = 16 from by decide) q10 ?_
      refine ey_iconst (cd_120 rfl) ?_
      refine ey_istore_n (cd_120 rfl) mt_120 rfl ?_
      refine ey_iconst (cd_120 rfl) ?_
      refine ey_istore (cd_120 rfl) mt_120 rfl ?_
      obtain ⟨x44, e45, e⟩ := jbind e
      refine jk_120_l33 e45 ?_ (jup (jup (jup (jlf (jla 0 [jR (some this), jI p0])) 2 (jI q7.1)) 3 (jI 0)) 4 (jI 0)) rfl (jup_o rfl (jup_o rfl (jup_pi (lv := (jlf (jla 0 [jR (some this), jI p0]))) (j := 1) (v := jI q7.1) (z := p0) rfl))) (jup_o rfl (jup_pi (lv := (jup (jlf (jla 0 [jR (some this), jI p0])) 2 (jI q7.1))) (j := 2) (v := jI 0) (z := q7.1) rfl)) (jup_pi (lv := (jup (jup (jlf (jla 0 [jR (some this), jI p0])) 2 (jI q7.1)) 3 (jI 0))) (j := 3) (v := jI 0) (z := 0) rfl) rfl
      cases x44 with
      | inl y46 =>
        replace e : (((jgr y46 this 8 0).bind fun r48 => ((r48).bind fun a50 => ((jgi y46 a50 0 3).bind fun v52 => some (v52, y46)))) : Option (Int × jH)) = some o := e
        intro lv g0
        refine ey_aload_n (cd_120 rfl) g0 ?_
        obtain ⟨r48, e49, e⟩ := jbind e
        refine ey_getf_r (cd_120 rfl) mt_120 rfl rfl rfl e49 ?_
        obtain ⟨a50, e51, e⟩ := jbind e
        refine ey_rs (s0 := [jR r48]) (s1 := [jR (some a50)]) (by rw [e51]) ?_
        obtain ⟨v52, e53, e⟩ := jbind e
        refine ey_getf_i (cd_120 rfl) mt_120 rfl rfl rfl e53 ?_
        cases e
        exact ey_reti (cd_120 rfl) mt_120 rfl
      | inr y47 =>
        replace e : (jse y47 (fun y54 => some (4, y54)) (fun y55 => jse y55 (fun y56 => ((jgr y56 this 8 0).bind fun r58 => ((r58).bind fun a60 => ((jgi y56 a60 0 3).bind fun v62 => some (v62, y56))))) (fun y57 => jse y57 (fun y64 => some (5, y64)) (fun y65 => some (0, y65)))) : Option (Int × jH)) = some o := e
        cases y47 with
        | inl y54 =>
          replace e : (some (4, y54) : Option (Int × jH)) = some o := e
          intro lv 
          refine ey_iconst (cd_120 rfl) ?_
          cases e
          exact ey_reti (cd_120 rfl) mt_120 rfl
        | inr y55 =>
          replace e : (jse y55 (fun y56 => ((jgr y56 this 8 0).bind fun r58 => ((r58).bind fun a60 => ((jgi y56 a60 0 3).bind fun v62 => some (v62, y56))))) (fun y57 => jse y57 (fun y64 => some (5, y64)) (fun y65 => some (0, y65))) : Option (Int × jH)) = some o := e
          cases y55 with
          | inl y56 =>
            replace e : (((jgr y56 this 8 0).bind fun r58 => ((r58).bind fun a60 => ((jgi y56 a60 0 3).bind fun v62 => some (v62, y56)))) : Option (Int × jH)) = some o := e
            intro lv g0
            refine ey_aload_n (cd_120 rfl) g0 ?_
            obtain ⟨r58, e59, e⟩ := jbind e
            refine ey_getf_r (cd_120 rfl) mt_120 rfl rfl rfl e59 ?_
            obtain ⟨a60, e61, e⟩ := jbind e
            refine ey_rs (s0 := [jR r58]) (s1 := [jR (some a60)]) (by rw [e61]) ?_
            obtain ⟨v62, e63, e⟩ := jbind e
            refine ey_getf_i (cd_120 rfl) mt_120 rfl rfl rfl e63 ?_
            cases e
            exact ey_reti (cd_120 rfl) mt_120 rfl
          | inr y57 =>
            replace e : (jse y57 (fun y64 => some (5, y64)) (fun y65 => some (0, y65)) : Option (Int × jH)) = some o := e
            cases y57 with
            | inl y64 =>
              replace e : (some (5, y64) : Option (Int × jH)) = some o := e
              intro lv 
              refine ey_iconst (cd_120 rfl) ?_
              cases e
              exact ey_reti (cd_120 rfl) mt_120 rfl
            | inr y65 =>
              replace e : (some (0, y65) : Option (Int × jH)) = some o := e
              intro lv 
              refine ey_iconst (cd_120 rfl) ?_
              cases e
              exact ey_reti (cd_120 rfl) mt_120 rfl
    · rw [if_neg q10] at e
      refine ey_nle (cd_120 rfl) rfl rfl (show jw 16 = 16 from by decide) q10 ?_
      refine ey_iconst (cd_120 rfl) ?_
      cases e
      exact ey_reti (cd_120 rfl) mt_120 rfl
  · rw [if_neg q9] at e
    refine ey_yge (cd_120 rfl) rfl rfl q9 ?_
    refine ey_aload_n (cd_120 rfl) rfl ?_
    obtain ⟨r66, e67, e⟩ := jbind e
    refine ey_getf_r (cd_120 rfl) mt_120 rfl rfl rfl e67 ?_
    obtain ⟨a68, e69, e⟩ := jbind e
    refine ey_rs (s0 := [jR r66]) (s1 := [jR (some a68)]) (by rw [e69]) ?_
    obtain ⟨v70, e71, e⟩ := jbind e
    refine ey_getf_i (cd_120 rfl) mt_120 rfl rfl rfl e71 ?_
    cases e
    exact ey_reti (cd_120 rfl) mt_120 rfl
