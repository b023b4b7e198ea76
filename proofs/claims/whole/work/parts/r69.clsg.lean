theorem cd_119 {pc : Nat} {i : Instr × Nat} (h : mm_lk mm_c119 pc = some i) : mm_cd 119 pc = some i := h
theorem mt_119 : mm_MT 119 = (8, 4, some .int, 1, 0, []) := rfl
set_option maxRecDepth 100000 in
theorem jk_119_b79 {L : Nat} {xs : Nat → Int32} {this : Nat} {x1 : Int} {x2 : Int} {h : jH} {o : ((Int × jH) ⊕ (jH ⊕ (jH ⊕ jH)))} {r : mm_R} (e : jd_119_b79 this x1 x2 h = some o) (K : jsm (fun s => (∀ lv : jL, lv 0 = some (jR (some this)) → lv 1 = some (jI x1) → lv 2 = some (jI s.1) → ey (mm_xt L xs) 3 119 2 lv [] s.2 r)) (fun x => (jsm (fun y => (∀ lv : jL, lv 0 = some (jR (some this)) → ey (mm_xt L xs) 3 119 27 lv [] y r)) (fun z => (jsm (fun y => (∀ lv : jL, ey (mm_xt L xs) 3 119 77 lv [] y r)) (fun z => (∀ lv : jL, lv 0 = some (jR (some this)) → lv 1 = some (jI x1) → ey (mm_xt L xs) 3 119 85 lv [] z r)) z)) x)) o) : ∀ lv : jL, lv 0 = some (jR (some this)) → lv 1 = some (jI x1) → lv 2 = some (jI x2) → ey (mm_xt L xs) 3 119 79 lv [] h r := by
  intro lv f0 f1 f2
  unfold jd_119_b79 at e
  refine ey_iinc (cd_119 rfl) mt_119 rfl f2 ?_
  refine ey_goto (cd_119 rfl) rfl ?_
  cases e
  exact K (jup lv 2 (jI (x2 + 1))) f0 (jup_pi (lv := lv) (j := 1) (v := jI (x2 + 1)) (z := x1) f1) rfl
set_option maxRecDepth 100000 in
theorem jk_119_s2 {L : Nat} {xs : Nat → Int32} {this : Nat} {x1 : Int} {x2 : Int} {h : jH} {o : ((Int × jH) ⊕ (jH ⊕ (jH ⊕ jH)))} {r : mm_R} (e : jd_119_s2 this x1 x2 h = some o) (K : jsm (fun s => (∀ lv : jL, lv 0 = some (jR (some this)) → lv 1 = some (jI x1) → lv 2 = some (jI s.1) → ey (mm_xt L xs) 3 119 2 lv [] s.2 r)) (fun x => (jsm (fun y => (∀ lv : jL, lv 0 = some (jR (some this)) → ey (mm_xt L xs) 3 119 27 lv [] y r)) (fun z => (jsm (fun y => (∀ lv : jL, ey (mm_xt L xs) 3 119 77 lv [] y r)) (fun z => (∀ lv : jL, lv 0 = some (jR (some this)) → lv 1 = some (jI x1) → ey (mm_xt L xs) 3 119 85 lv [] z r)) z)) x)) o) : ∀ lv : jL, lv 0 = some (jR (some this)) → lv 1 = some (jI x1) → lv 2 = some (jI x2) → ey (mm_xt L xs) 3 119 2 lv [] h r := by
  intro lv f0 f1 f2
  unfold jd_119_s2 at e
  refine ey_iload_n (cd_119 rfl) f2 ?_
  refine ey_iconst (cd_119 rfl) ?_
  by_cases q1 : 4 ≤ (jw x2)
  · rw [if_pos q1] at e
    refine ey_cge (cd_119 rfl) rfl rfl (show jw 4 = 4 from by decide) q1 ?_
    cases e
    exact K lv f0 f1
  · rw [if_neg q1] at e
    refine ey_nge (cd_119 rfl) rfl rfl (show jw 4 = 4 from by decide) q1 ?_
    refine ey_iload_n (cd_119 rfl) f1 ?_
    refine ey_iload_n (cd_119 rfl) f2 ?_
    refine ey_cs (s0 := [jI x2, jI x1]) (s1 := []) (st' := [jI (jd_77 x1 x2)]) (cd_119 rfl) mt_119 mt_77 rfl (by decide) rfl rfl (jsml_s rfl) rfl (mm_Runs.up (d := 1) (by decide) (ok_77 )) ?_
    by_cases q2 : (jw (jd_77 x1 x2)) = 0
    · rw [if_pos q2] at e
      refine ey_zeq (cd_119 rfl) rfl rfl q2 ?_
      exact jk_119_b79 e K lv f0 f1 f2
    · rw [if_neg q2] at e
      refine ey_yeq (cd_119 rfl) rfl rfl q2 ?_
      refine ey_aload_n (cd_119 rfl) f0 ?_
      obtain ⟨r3, e4, e⟩ := jbind e
      refine ey_getf_r (cd_119 rfl) mt_119 rfl rfl rfl e4 ?_
      obtain ⟨a5, e6, e⟩ := jbind e
      refine ey_rs (s0 := [jR r3]) (s1 := [jR (some a5)]) (by rw [e6]) ?_
      obtain ⟨u7, e8, e⟩ := jbind e
      obtain ⟨q9, e10, e⟩ := jbind e
      refine ey_cv (s0 := [jR (some a5)]) (s1 := []) (st' := [jI q9.1]) (cd_119 rfl) mt_119 mt_2 rfl rfl rfl (jck_s e8) rfl (jsml_s rfl) rfl (mm_Runs.up (d := 2) (by decide) (ok_2 e10)) ?_
      refine ey_istore_n (cd_119 rfl) mt_119 rfl ?_
      refine ey_iload_n (cd_119 rfl) rfl ?_
      by_cases q11 : 0 ≤ (jw q9.1)
      · rw [if_pos q11] at e
        refine ey_zge (cd_119 rfl) rfl rfl q11 ?_
        refine ey_aload_n (cd_119 rfl) f0 ?_
        obtain ⟨r12, e13, e⟩ := jbind e
        refine ey_getf_r (cd_119 rfl) mt_119 rfl rfl rfl e13 ?_
        refine ey_iload_n (cd_119 rfl) (jup_pi (lv := lv) (j := 2) (v := jI q9.1) (z := x2) f2) ?_
        refine ey_aload_n (cd_119 rfl) f0 ?_
        obtain ⟨r14, e15, e⟩ := jbind e
        refine ey_getf_r (cd_119 rfl) mt_119 rfl rfl rfl e15 ?_
        obtain ⟨a16, e17, e⟩ := jbind e
        refine ey_rs (s0 := [jR r14, jI x2, jR r12]) (s1 := [jR (some a16), jI x2, jR r12]) (by rw [e17]) ?_
        obtain ⟨r18, e19, e⟩ := jbind e
        refine ey_getf_r (cd_119 rfl) mt_119 rfl rfl rfl e19 ?_
        refine ey_iload_n (cd_119 rfl) (jup_pi (lv := lv) (j := 2) (v := jI q9.1) (z := x2) f2) ?_
        obtain ⟨a20, e21, e⟩ := jbind e
        refine ey_rs (s0 := [jI x2, jR r18, jI x2, jR r12]) (s1 := [jI x2, jR (some a20), jI x2, jR r12]) (by rw [e21]) ?_
        obtain ⟨v22, e23, e⟩ := jbind e
        refine ey_iald (cd_119 rfl) e23 ?_
        refine ey_iload_n (cd_119 rfl) rfl ?_
        refine ey_cs (s0 := [jI q9.1, jI v22, jI x2, jR r12]) (s1 := [jI v22, jI x2, jR r12]) (st' := [jI (jd_14 q9.1), jI v22, jI x2, jR r12]) (cd_119 rfl) mt_119 mt_14 rfl (by decide) rfl rfl (jsml_s rfl) rfl (mm_Runs.up (d := 1) (by decide) (ok_14 )) ?_
        refine ey_iadd (cd_119 rfl) ?_
        obtain ⟨a24, e25, e⟩ := jbind e
        refine ey_rs (s0 := [jI (v22 + (jd_14 q9.1)), jI x2, jR r12]) (s1 := [jI (v22 + (jd_14 q9.1)), jI x2, jR (some a24)]) (by rw [e25]) ?_
        obtain ⟨h26, e27, e⟩ := jbind e
        refine ey_iast (cd_119 rfl) e27 ?_
        refine ey_aload_n (cd_119 rfl) f0 ?_
        obtain ⟨r28, e29, e⟩ := jbind e
        refine ey_getf_r (cd_119 rfl) mt_119 rfl rfl rfl e29 ?_
        refine ey_iload_n (cd_119 rfl) (jup_pi (lv := lv) (j := 2) (v := jI q9.1) (z := x2) f2) ?_
        obtain ⟨a30, e31, e⟩ := jbind e
        refine ey_rs (s0 := [jI x2, jR r28]) (s1 := [jI x2, jR (some a30)]) (by rw [e31]) ?_
        obtain ⟨v32, e33, e⟩ := jbind e
        refine ey_iald (cd_119 rfl) e33 ?_
        refine ey_bipush (cd_119 rfl) (by decide) ?_
        by_cases q34 : (jw v32) < (-16)
        · rw [if_pos q34] at e
          refine ey_clt (cd_119 rfl) rfl rfl (show jw (-16) = (-16) from by decide) q34 ?_
          cases e
          exact K (jup lv 3 (jI q9.1)) 
        · rw [if_neg q34] at e
          refine ey_nlt (cd_119 rfl) rfl rfl (show jw (-16) = (-16) from by decide) q34 ?_
          refine ey_aload_n (cd_119 rfl) f0 ?_
          obtain ⟨r35, e36, e⟩ := jbind e
          refine ey_getf_r (cd_119 rfl) mt_119 rfl rfl rfl e36 ?_
          refine ey_iload_n (cd_119 rfl) (jup_pi (lv := lv) (j := 2) (v := jI q9.1) (z := x2) f2) ?_
          obtain ⟨a37, e38, e⟩ := jbind e
          refine ey_rs (s0 := [jI x2, jR r35]) (s1 := [jI x2, jR (some a37)]) (by rw [e38]) ?_
          obtain ⟨v39, e40, e⟩ := jbind e
          refine ey_iald (cd_119 rfl) e40 ?_
          refine ey_bipush (cd_119 rfl) (by decide) ?_
          by_cases q41 : (jw v39) ≤ 16
          · rw [if_pos q41] at e
            refine ey_cle (cd_119 rfl) rfl rfl (show jw 16 = 16 from by decide) q41 ?_
            exact jk_119_b79 e K (jup lv 3 (jI q9.1)) f0 f1 (jup_pi (lv := lv) (j := 2) (v := jI q9.1) (z := x2) f2)
          · rw [if_neg q41] at e
            refine ey_nle (cd_119 rfl) rfl rfl (show jw 16 = 16 from by decide) q41 ?_
            cases e
            exact K (jup lv 3 (jI q9.1)) 
      · rw [if_neg q11] at e
        refine ey_yge (cd_119 rfl) rfl rfl q11 ?_
        cases e
        exact K (jup lv 3 (jI q9.1)) f0
theorem jk_119_l2 {L : Nat} {xs : Nat → Int32} {this : Nat} {x1 : Int} {x2 : Int} {h : jH} {x : (jH ⊕ (jH ⊕ jH))} {r : mm_R} (e : jd_119_l2 this x1 x2 h = some x) (K : (jsm (fun y => (∀ lv : jL, lv 0 = some (jR (some this)) → ey (mm_xt L xs) 3 119 27 lv [] y r)) (fun z => (jsm (fun y => (∀ lv : jL, ey (mm_xt L xs) 3 119 77 lv [] y r)) (fun z => (∀ lv : jL, lv 0 = some (jR (some this)) → lv 1 = some (jI x1) → ey (mm_xt L xs) 3 119 85 lv [] z r)) z)) x)) : ∀ lv : jL, lv 0 = some (jR (some this)) → lv 1 = some (jI x1) → lv 2 = some (jI x2) → ey (mm_xt L xs) 3 119 2 lv [] h r := by
  unfold jd_119_l2 at e
  exact jlp_ok2 (P := fun s => ∀ lv : jL, lv 0 = some (jR (some this)) → lv 1 = some (jI x1) → lv 2 = some (jI s.1) → ey (mm_xt L xs) 3 119 2 lv [] s.2 r) (Q := fun x => (jsm (fun y => (∀ lv : jL, lv 0 = some (jR (some this)) → ey (mm_xt L xs) 3 119 27 lv [] y r)) (fun z => (jsm (fun y => (∀ lv : jL, ey (mm_xt L xs) 3 119 77 lv [] y r)) (fun z => (∀ lv : jL, lv 0 = some (jR (some this)) → lv 1 = some (jI x1) → ey (mm_xt L xs) 3 119 85 lv [] z r)) z)) x)) (fun s q hq hk => jk_119_s2 hq hk) jfu _ x e K
set_option maxRecDepth 100000 in
theorem jk_119_s87 {L : Nat} {xs : Nat → Int32} {this : Nat} {x1 : Int} {x2 : Int} {h : jH} {o : ((Int × jH) ⊕ jH)} {r : mm_R} (e : jd_119_s87 this x1 x2 h = some o) (K : jsm (fun s => (∀ lv : jL, lv 0 = some (jR (some this)) → lv 1 = some (jI x1) → lv 2 = some (jI s.1) → ey (mm_xt L xs) 3 119 87 lv [] s.2 r)) (fun x => (∀ lv : jL, lv 0 = some (jR (some this)) → lv 1 = some (jI x1) → ey (mm_xt L xs) 3 119 109 lv [] x r)) o) : ∀ lv : jL, lv 0 = some (jR (some this)) → lv 1 = some (jI x1) → lv 2 = some (jI x2) → ey (mm_xt L xs) 3 119 87 lv [] h r := by
  intro lv f0 f1 f2
  unfold jd_119_s87 at e
  refine ey_iload_n (cd_119 rfl) f2 ?_
  refine ey_bipush (cd_119 rfl) (by decide) ?_
  by_cases q54 : 96 ≤ (jw x2)
  · rw [if_pos q54] at e
    refine ey_cge (cd_119 rfl) rfl rfl (show jw 96 = 96 from by decide) q54 ?_
    cases e
    exact K lv f0 f1
  · rw [if_neg q54] at e
    refine ey_nge (cd_119 rfl) rfl rfl (show jw 96 = 96 from by decide) q54 ?_
    refine ey_aload_n (cd_119 rfl) f0 ?_
    obtain ⟨r55, e56, e⟩ := jbind e
    refine ey_getf_r (cd_119 rfl) mt_119 rfl rfl rfl e56 ?_
    obtain ⟨a57, e58, e⟩ := jbind e
    refine ey_rs (s0 := [jR r55]) (s1 := [jR (some a57)]) (by rw [e58]) ?_
    obtain ⟨r59, e60, e⟩ := jbind e
    refine ey_getf_r (cd_119 rfl) mt_119 rfl rfl rfl e60 ?_
    refine ey_iload_n (cd_119 rfl) f2 ?_
    refine ey_iconst (cd_119 rfl) ?_
    obtain ⟨a61, e62, e⟩ := jbind e
    refine ey_rs (s0 := [jI 0, jI x2, jR r59]) (s1 := [jI 0, jI x2, jR (some a61)]) (by rw [e62]) ?_
    obtain ⟨h63, e64, e⟩ := jbind e
    refine ey_iast (cd_119 rfl) e64 ?_
    refine ey_iinc (cd_119 rfl) mt_119 rfl f2 ?_
    refine ey_goto (cd_119 rfl) rfl ?_
    cases e
    exact K (jup lv 2 (jI (x2 + 1))) f0 (jup_pi (lv := lv) (j := 1) (v := jI (x2 + 1)) (z := x1) f1) rfl
theorem jk_119_l87 {L : Nat} {xs : Nat → Int32} {this : Nat} {x1 : Int} {x2 : Int} {h : jH} {x : jH} {r : mm_R} (e : jd_119_l87 this x1 x2 h = some x) (K : (∀ lv : jL, lv 0 = some (jR (some this)) → lv 1 = some (jI x1) → ey (mm_xt L xs) 3 119 109 lv [] x r)) : ∀ lv : jL, lv 0 = some (jR (some this)) → lv 1 = some (jI x1) → lv 2 = some (jI x2) → ey (mm_xt L xs) 3 119 87 lv [] h r := by
  unfold jd_119_l87 at e
  exact jlp_ok2 (P := fun s => ∀ lv : jL, lv 0 = some (jR (some this)) → lv 1 = some (jI x1) → lv 2 = some (jI s.1) → ey (mm_xt L xs) 3 119 87 lv [] s.2 r) (Q := fun x => (∀ lv : jL, lv 0 = some (jR (some this)) → lv 1 = some (jI x1) → ey (mm_xt L xs) 3 119 109 lv [] x r)) (fun s q hq hk => jk_119_s87 hq hk) jfu _ x e K
set_option maxRecDepth 100000 in
theorem jk_119_s111 {L : Nat} {xs : Nat → Int32} {this : Nat} {x1 : Int} {x2 : Int} {h : jH} {o : ((Int × jH) ⊕ ((Int × jH) ⊕ jH))} {r : mm_R} (e : jd_119_s111 this x1 x2 h = some o) (K : jsm (fun s => (∀ lv : jL, lv 0 = some (jR (some this)) → lv 1 = some (jI x1) → lv 2 = some (jI s.1) → ey (mm_xt L xs) 3 119 111 lv [] s.2 r)) (fun x => (jsm (fun y => (∀ lv : jL, lv 3 = some (jI y.1) → ey (mm_xt L xs) 3 119 131 lv [] y.2 r)) (fun z => (∀ lv : jL, lv 0 = some (jR (some this)) → lv 1 = some (jI x1) → ey (mm_xt L xs) 3 119 139 lv [] z r)) x)) o) : ∀ lv : jL, lv 0 = some (jR (some this)) → lv 1 = some (jI x1) → lv 2 = some (jI x2) → ey (mm_xt L xs) 3 119 111 lv [] h r := by
  intro lv f0 f1 f2
  unfold jd_119_s111 at e
  refine ey_iload_n (cd_119 rfl) f2 ?_
  refine ey_bipush (cd_119 rfl) (by decide) ?_
  by_cases q67 : 6 ≤ (jw x2)
  · rw [if_pos q67] at e
    refine ey_cge (cd_119 rfl) rfl rfl (show jw 6 = 6 from by decide) q67 ?_
    cases e
    exact K lv f0 f1
  · rw [if_neg q67] at e
    refine ey_nge (cd_119 rfl) rfl rfl (show jw 6 = 6 from by decide) q67 ?_
    refine ey_iload_n (cd_119 rfl) f1 ?_
    by_cases q68 : (jw x1) = 0
    · rw [if_pos q68] at e
      refine ey_zeq (cd_119 rfl) rfl rfl q68 ?_
      cases e
      exact K lv f0 f1
    · rw [if_neg q68] at e
      refine ey_yeq (cd_119 rfl) rfl rfl q68 ?_
      refine ey_aload_n (cd_119 rfl) f0 ?_
      refine ey_iload_n (cd_119 rfl) f2 ?_
      obtain ⟨u69, e70, e⟩ := jbind e
      obtain ⟨q71, e72, e⟩ := jbind e
      refine ey_cv (s0 := [jI x2, jR (some this)]) (s1 := []) (st' := [jI q71.1]) (cd_119 rfl) mt_119 mt_120 rfl rfl rfl (jck_s e70) rfl (jsml_s rfl) rfl (ok_120 e72) ?_
      refine ey_istore_n (cd_119 rfl) mt_119 rfl ?_
      refine ey_iload_n (cd_119 rfl) rfl ?_
      by_cases q73 : (jw q71.1) = 0
      · rw [if_pos q73] at e
        refine ey_zeq (cd_119 rfl) rfl rfl q73 ?_
        refine ey_iinc (cd_119 rfl) mt_119 rfl (jup_pi (lv := lv) (j := 2) (v := jI q71.1) (z := x2) f2) ?_
        refine ey_goto (cd_119 rfl) rfl ?_
        cases e
        exact K (jup (jup lv 3 (jI q71.1)) 2 (jI (x2 + 1))) f0 (jup_pi (lv := (jup lv 3 (jI q71.1))) (j := 1) (v := jI (x2 + 1)) (z := x1) f1) rfl
      · rw [if_neg q73] at e
        refine ey_yeq (cd_119 rfl) rfl rfl q73 ?_
        cases e
        exact K (jup lv 3 (jI q71.1)) rfl
theorem jk_119_l111 {L : Nat} {xs : Nat → Int32} {this : Nat} {x1 : Int} {x2 : Int} {h : jH} {x : ((Int × jH) ⊕ jH)} {r : mm_R} (e : jd_119_l111 this x1 x2 h = some x) (K : (jsm (fun y => (∀ lv : jL, lv 3 = some (jI y.1) → ey (mm_xt L xs) 3 119 131 lv [] y.2 r)) (fun z => (∀ lv : jL, lv 0 = some (jR (some this)) → lv 1 = some (jI x1) → ey (mm_xt L xs) 3 119 139 lv [] z r)) x)) : ∀ lv : jL, lv 0 = some (jR (some this)) → lv 1 = some (jI x1) → lv 2 = some (jI x2) → ey (mm_xt L xs) 3 119 111 lv [] h r := by
  unfold jd_119_l111 at e
  exact jlp_ok2 (P := fun s => ∀ lv : jL, lv 0 = some (jR (some this)) → lv 1 = some (jI x1) → lv 2 = some (jI s.1) → ey (mm_xt L xs) 3 119 111 lv [] s.2 r) (Q := fun x => (jsm (fun y => (∀ lv : jL, lv 3 = some (jI y.1) → ey (mm_xt L xs) 3 119 131 lv [] y.2 r)) (fun z => (∀ lv : jL, lv 0 = some (jR (some this)) → lv 1 = some (jI x1) → ey (mm_xt L xs) 3 119 139 lv [] z r)) x)) (fun s q hq hk => jk_119_s111 hq hk) jfu _ x e K
set_option maxRecDepth 100000 in
theorem jk_119_b193 {L : Nat} {xs : Nat → Int32} {this : Nat} {x2 : Int} {h : jH} {o : ((Int × jH) ⊕ jH)} {r : mm_R} (e : jd_119_b193 this x2 h = some o) (K : jsm (fun s => (∀ lv : jL, lv 0 = some (jR (some this)) → lv 2 = some (jI s.1) → ey (mm_xt L xs) 3 119 168 lv [] s.2 r)) (fun x => (∀ lv : jL, ey (mm_xt L xs) 3 119 199 lv [] x r)) o) : ∀ lv : jL, lv 0 = some (jR (some this)) → lv 2 = some (jI x2) → ey (mm_xt L xs) 3 119 193 lv [] h r := by
  intro lv f0 f2
  unfold jd_119_b193 at e
  refine ey_iinc (cd_119 rfl) mt_119 rfl f2 ?_
  refine ey_goto (cd_119 rfl) rfl ?_
  cases e
  exact K (jup lv 2 (jI (x2 + 1))) f0 rfl
set_option maxRecDepth 100000 in
theorem jk_119_s168 {L : Nat} {xs : Nat → Int32} {this : Nat} {x2 : Int} {h : jH} {o : ((Int × jH) ⊕ jH)} {r : mm_R} (e : jd_119_s168 this x2 h = some o) (K : jsm (fun s => (∀ lv : jL, lv 0 = some (jR (some this)) → lv 2 = some (jI s.1) → ey (mm_xt L xs) 3 119 168 lv [] s.2 r)) (fun x => (∀ lv : jL, ey (mm_xt L xs) 3 119 199 lv [] x r)) o) : ∀ lv : jL, lv 0 = some (jR (some this)) → lv 2 = some (jI x2) → ey (mm_xt L xs) 3 119 168 lv [] h r := by
  intro lv f0 f2
  unfold jd_119_s168 at e
  refine ey_iload_n (cd_119 rfl) f2 ?_
  refine ey_bipush (cd_119 rfl) (by decide) ?_
  by_cases q104 : 6 ≤ (jw x2)
  · rw [if_pos q104] at e
    refine ey_cge (cd_119 rfl) rfl rfl (show jw 6 = 6 from by decide) q104 ?_
    cases e
    exact K lv 
  · rw [if_neg q104] at e
    refine ey_nge (cd_119 rfl) rfl rfl (show jw 6 = 6 from by decide) q104 ?_
    refine ey_aload_n (cd_119 rfl) f0 ?_
    obtain ⟨r105, e106, e⟩ := jbind e
    refine ey_getf_r (cd_119 rfl) mt_119 rfl rfl rfl e106 ?_
    refine ey_iload_n (cd_119 rfl) f2 ?_
    obtain ⟨a107, e108, e⟩ := jbind e
    refine ey_rs (s0 := [jI x2, jR r105]) (s1 := [jI x2, jR (some a107)]) (by rw [e108]) ?_
    obtain ⟨u109, e110, e⟩ := jbind e
    obtain ⟨v111, e112, e⟩ := jbind e
    refine ey_cv (s0 := [jI x2, jR (some a107)]) (s1 := []) (st' := [jI v111]) (cd_119 rfl) mt_119 mt_89 rfl rfl rfl (jck_s e110) rfl (jsml_s rfl) rfl (mm_Runs.up (d := 1) (by decide) (ok_89 e112)) ?_
    by_cases q113 : (jw v111) ≤ 0
    · rw [if_pos q113] at e
      refine ey_zle (cd_119 rfl) rfl rfl q113 ?_
      exact jk_119_b193 e K lv f0 f2
    · rw [if_neg q113] at e
      refine ey_yle (cd_119 rfl) rfl rfl q113 ?_
      refine ey_aload_n (cd_119 rfl) f0 ?_
      obtain ⟨r114, e115, e⟩ := jbind e
      refine ey_getf_r (cd_119 rfl) mt_119 rfl rfl rfl e115 ?_
      refine ey_iload_n (cd_119 rfl) f2 ?_
      obtain ⟨a116, e117, e⟩ := jbind e
      refine ey_rs (s0 := [jI x2, jR r114]) (s1 := [jI x2, jR (some a116)]) (by rw [e117]) ?_
      obtain ⟨u118, e119, e⟩ := jbind e
      obtain ⟨h120, e121, e⟩ := jbind e
      refine ey_cv (s0 := [jI x2, jR (some a116)]) (s1 := []) (st' := []) (cd_119 rfl) mt_119 mt_91 rfl rfl rfl (jck_s e119) rfl (jsml_s rfl) rfl (ok_91 e121) ?_
      exact jk_119_b193 e K lv f0 f2
theorem jk_119_l168 {L : Nat} {xs : Nat → Int32} {this : Nat} {x2 : Int} {h : jH} {x : jH} {r : mm_R} (e : jd_119_l168 this x2 h = some x) (K : (∀ lv : jL, ey (mm_xt L xs) 3 119 199 lv [] x r)) : ∀ lv : jL, lv 0 = some (jR (some this)) → lv 2 = some (jI x2) → ey (mm_xt L xs) 3 119 168 lv [] h r := by
  unfold jd_119_l168 at e
  exact jlp_ok2 (P := fun s => ∀ lv : jL, lv 0 = some (jR (some this)) → lv 2 = some (jI s.1) → ey (mm_xt L xs) 3 119 168 lv [] s.2 r) (Q := fun x => (∀ lv : jL, ey (mm_xt L xs) 3 119 199 lv [] x r)) (fun s q hq hk => jk_119_s168 hq hk) jfu _ x e K
set_option maxRecDepth 100000 in
theorem ok_119 {L : Nat} {xs : Nat → Int32} {this : Nat} {p0 : Int} {h : jH} {o : (Int × jH)} (e : jd_119 this p0 h = some o) : mm_Runs (mm_xt L xs) 4 119 ([jR (some this), jI p0].map jcv) (jaH h) (.inl (some (jcv (jI o.1)), jaH o.2)) := by
  refine ey_run0 _ mt_119 (jsl_s rfl) ?_
  unfold jd_119 at e
  refine ey_iconst (cd_119 rfl) ?_
  refine ey_istore_n (cd_119 rfl) mt_119 rfl ?_
  obtain ⟨x42, e43, e⟩ := jbind e
  refine jk_119_l2 e43 ?_ (jup (jlf (jla 0 [jR (some this), jI p0])) 2 (jI 0)) rfl (jup_pi (lv := (jlf (jla 0 [jR (some this), jI p0]))) (j := 1) (v := jI 0) (z := p0) rfl) rfl
  cases x42 with
  | inl y44 =>
    replace e : (((jgr y44 this 8 0).bind fun r46 => ((r46).bind fun a48 => ((jgi y44 a48 0 3).bind fun v50 => some (v50, y44)))) : Option (Int × jH)) = some o := e
    intro lv g0
    refine ey_aload_n (cd_119 rfl) g0 ?_
    obtain ⟨r46, e47, e⟩ := jbind e
    refine ey_getf_r (cd_119 rfl) mt_119 rfl rfl rfl e47 ?_
    obtain ⟨a48, e49, e⟩ := jbind e
    refine ey_rs (s0 := [jR r46]) (s1 := [jR (some a48)]) (by rw [e49]) ?_
    obtain ⟨v50, e51, e⟩ := jbind e
    refine ey_getf_i (cd_119 rfl) mt_119 rfl rfl rfl e51 ?_
    cases e
    exact ey_reti (cd_119 rfl) mt_119 rfl
  | inr y45 =>
    replace e : (jse y45 (fun y52 => some (3, y52)) (fun y53 => ((jd_119_l87 this p0 0 y53).bind fun x65 => ((jd_119_l111 this p0 0 x65).bind fun x74 => jse x74 (fun y76 => some (y76.1, y76.2)) (fun y77 => ((jgr y77 this 8 1).bind fun r78 => ((jgr y77 this 8 5).bind fun r80 => ((r78).bind fun a82 => ((jck y77 a82 5).bind fun u84 => ((jd_78 a82 p0 r80 y77).bind fun h86 => ((jgr h86 this 8 1).bind fun r88 => ((r88).bind fun a90 => ((jck h86 a90 5).bind fun u92 => ((jd_79 a90 p0 h86).bind fun h94 => ((jgr h94 this 8 1).bind fun r96 => ((r96).bind fun a98 => ((jck h94 a98 5).bind fun u100 => ((jd_90 a98 h94).bind fun h102 => ((jd_119_l168 this 0 h102).bind fun x122 => some (0, x122))))))))))))))))))) : Option (Int × jH)) = some o := e
    cases y45 with
    | inl y52 =>
      replace e : (some (3, y52) : Option (Int × jH)) = some o := e
      intro lv 
      refine ey_iconst (cd_119 rfl) ?_
      cases e
      exact ey_reti (cd_119 rfl) mt_119 rfl
    | inr y53 =>
      replace e : (((jd_119_l87 this p0 0 y53).bind fun x65 => ((jd_119_l111 this p0 0 x65).bind fun x74 => jse x74 (fun y76 => some (y76.1, y76.2)) (fun y77 => ((jgr y77 this 8 1).bind fun r78 => ((jgr y77 this 8 5).bind fun r80 => ((r78).bind fun a82 => ((jck y77 a82 5).bind fun u84 => ((jd_78 a82 p0 r80 y77).bind fun h86 => ((jgr h86 this 8 1).bind fun r88 => ((r88).bind fun a90 => ((jck h86 a90 5).bind fun u92 => ((jd_79 a90 p0 h86).bind fun h94 => ((jgr h94 this 8 1).bind fun r96 => ((r96).bind fun a98 => ((jck h94 a98 5).bind fun u100 => ((jd_90 a98 h94).bind fun h102 => ((jd_119_l168 this 0 h102).bind fun x122 => some (0, x122)))))))))))))))))) : Option (Int × jH)) = some o := e
      intro lv g0 g1
      refine ey_iconst (cd_119 rfl) ?_
      refine ey_istore_n (cd_119 rfl) mt_119 rfl ?_
      obtain ⟨x65, e66, e⟩ := jbind e
      refine jk_119_l87 e66 ?_ (jup lv 2 (jI 0)) g0 (jup_pi (lv := lv) (j := 1) (v := jI 0) (z := p0) g1) rfl
      intro lv g0 g1
      refine ey_iconst (cd_119 rfl) ?_
      refine ey_istore_n (cd_119 rfl) mt_119 rfl ?_
      obtain ⟨x74, e75, e⟩ := jbind e
      refine jk_119_l111 e75 ?_ (jup lv 2 (jI 0)) g0 (jup_pi (lv := lv) (j := 1) (v := jI 0) (z := p0) g1) rfl
      cases x74 with
      | inl y76 =>
        replace e : (some (y76.1, y76.2) : Option (Int × jH)) = some o := e
        intro lv g3
        refine ey_iload_n (cd_119 rfl) g3 ?_
        cases e
        exact ey_reti (cd_119 rfl) mt_119 rfl
      | inr y77 =>
        replace e : (((jgr y77 this 8 1).bind fun r78 => ((jgr y77 this 8 5).bind fun r80 => ((r78).bind fun a82 => ((jck y77 a82 5).bind fun u84 => ((jd_78 a82 p0 r80 y77).bind fun h86 => ((jgr h86 this 8 1).bind fun r88 => ((r88).bind fun a90 => ((jck h86 a90 5).bind fun u92 => ((jd_79 a90 p0 h86).bind fun h94 => ((jgr h94 this 8 1).bind fun r96 => ((r96).bind fun a98 => ((jck h94 a98 5).bind fun u100 => ((jd_90 a98 h94).bind fun h102 => ((jd_119_l168 this 0 h102).bind fun x122 => some (0, x122))))))))))))))) : Option (Int × jH)) = some o := e
        intro lv g0 g1
        refine ey_aload_n (cd_119 rfl) g0 ?_
        obtain ⟨r78, e79, e⟩ := jbind e
        refine ey_getf_r (cd_119 rfl) mt_119 rfl rfl rfl e79 ?_
        refine ey_iload_n (cd_119 rfl) g1 ?_
        refine ey_aload_n (cd_119 rfl) g0 ?_
        obtain ⟨r80, e81, e⟩ := jbind e
        refine ey_getf_r (cd_119 rfl) mt_119 rfl rfl rfl e81 ?_
        obtain ⟨a82, e83, e⟩ := jbind e
        refine ey_rs (s0 := [jR r80, jI p0, jR r78]) (s1 := [jR r80, jI p0, jR (some a82)]) (by rw [e83]) ?_
        obtain ⟨u84, e85, e⟩ := jbind e
        obtain ⟨h86, e87, e⟩ := jbind e
        refine ey_cv (s0 := [jR r80, jI p0, jR (some a82)]) (s1 := []) (st' := []) (cd_119 rfl) mt_119 mt_78 rfl rfl rfl (jck_s e85) rfl (jsml_s rfl) rfl (mm_Runs.up (d := 2) (by decide) (ok_78 e87)) ?_
        refine ey_aload_n (cd_119 rfl) g0 ?_
        obtain ⟨r88, e89, e⟩ := jbind e
        refine ey_getf_r (cd_119 rfl) mt_119 rfl rfl rfl e89 ?_
        refine ey_iload_n (cd_119 rfl) g1 ?_
        obtain ⟨a90, e91, e⟩ := jbind e
        refine ey_rs (s0 := [jI p0, jR r88]) (s1 := [jI p0, jR (some a90)]) (by rw [e91]) ?_
        obtain ⟨u92, e93, e⟩ := jbind e
        obtain ⟨h94, e95, e⟩ := jbind e
        refine ey_cv (s0 := [jI p0, jR (some a90)]) (s1 := []) (st' := []) (cd_119 rfl) mt_119 mt_79 rfl rfl rfl (jck_s e93) rfl (jsml_s rfl) rfl (ok_79 e95) ?_
        refine ey_aload_n (cd_119 rfl) g0 ?_
        obtain ⟨r96, e97, e⟩ := jbind e
        refine ey_getf_r (cd_119 rfl) mt_119 rfl rfl rfl e97 ?_
        obtain ⟨a98, e99, e⟩ := jbind e
        refine ey_rs (s0 := [jR r96]) (s1 := [jR (some a98)]) (by rw [e99]) ?_
        obtain ⟨u100, e101, e⟩ := jbind e
        obtain ⟨h102, e103, e⟩ := jbind e
        refine ey_cv (s0 := [jR (some a98)]) (s1 := []) (st' := []) (cd_119 rfl) mt_119 mt_90 rfl rfl rfl (jck_s e101) rfl (jsml_s rfl) rfl (mm_Runs.up (d := 1) (by decide) (ok_90 e103)) ?_
        refine ey_iconst (cd_119 rfl) ?_
        refine ey_istore_n (cd_119 rfl) mt_119 rfl ?_
        obtain ⟨x122, e123, e⟩ := jbind e
        refine jk_119_l168 e123 ?_ (jup lv 2 (jI 0)) g0 rfl
        intro lv 
        refine ey_iconst (cd_119 rfl) ?_
        cases e
        exact ey_reti (cd_119 rfl) mt_119 rfl
theorem cd_117 {pc : Nat} {i : Instr × Nat} (h : mm_lk mm_c117 pc = some i) : mm_cd 117 pc = some i := h
theorem mt_117 : mm_MT 117 = (8, 9, some .int, 2, 0, []) := rfl
set_option maxRecDepth 100000 in
theorem jk_117_b122 {L : Nat} {xs : Nat → Int32} {this : Nat} {x1 : Option Nat} {x2 : Int} {x3 : Option Nat} {x4 : Int} {x5 : Int} {x6 : Int} {x7 : Int} {x8 : Int} {h : jH} {o : ((Int × jH) ⊕ ((Int × jH) ⊕ jH))} {r : mm_R} (e : jd_117_b122 this x1 x2 x3 x4 x5 x6 x7 x8 h = some o) (K : jsm (fun s => (∀ lv : jL, lv 0 = some (jR (some this)) → lv 1 = some (jR x1) → lv 2 = some (jI x2) → lv 3 = some (jR x3) → lv 4 = some (jI x4) → lv 5 = some (jI s.1) → ey (mm_xt L xs) 4 117 28 lv [] s.2 r)) (fun x => (jsm (fun y => (∀ lv : jL, lv 8 = some (jI y.1) → ey (mm_xt L xs) 4 117 127 lv [] y.2 r)) (fun z => (∀ lv : jL, lv 0 = some (jR (some this)) → lv 4 = some (jI x4) → ey (mm_xt L xs) 4 117 182 lv [] z r)) x)) o) : ∀ lv : jL, lv 0 = some (jR (some this)) → lv 1 = some (jR x1) → lv 2 = some (jI x2) → lv 3 = some (jR x3) → lv 4 = some (jI x4) → lv 5 = some (jI x5) → lv 6 = some (jI x6) → lv 7 = some (jI x7) → lv 8 = some (jI x8) → ey (mm_xt L xs) 4 117 122 lv [] h r := by
  intro lv f0 f1 f2 f3 f4 f5 f6 f7 f8
  unfold jd_117_b122 at e
  refine ey_iload (cd_117 rfl) f8 ?_
  by_cases q62 : (jw x8) = 0
  · rw [if_pos q62] at e
    refine ey_zeq (cd_117 rfl) rfl rfl q62 ?_
    refine ey_aload_n (cd_117 rfl) f0 ?_
    obtain ⟨r63, e64, e⟩ := jbind e
    refine ey_getf_r (cd_117 rfl) mt_117 rfl rfl rfl e64 ?_
    refine ey_aload_n (cd_117 rfl) f3 ?_
    refine ey_aload_n (cd_117 rfl) f0 ?_
    obtain ⟨r65, e66, e⟩ := jbind e
    refine ey_getf_r (cd_117 rfl) mt_117 rfl rfl rfl e66 ?_
    obtain ⟨a67, e68, e⟩ := jbind e
    refine ey_rs (s0 := [jR r65, jR x3, jR r63]) (s1 := [jR (some a67), jR x3, jR r63]) (by rw [e68]) ?_
    obtain ⟨r69, e70, e⟩ := jbind e
    refine ey_getf_r (cd_117 rfl) mt_117 rfl rfl rfl e70 ?_
    refine ey_iconst (cd_117 rfl) ?_
    obtain ⟨a71, e72, e⟩ := jbind e
    refine ey_rs (s0 := [jI 1, jR r69, jR x3, jR r63]) (s1 := [jI 1, jR r69, jR x3, jR (some a71)]) (by rw [e72]) ?_
    obtain ⟨u73, e74, e⟩ := jbind e
    obtain ⟨h75, e76, e⟩ := jbind e
    refine ey_cv (s0 := [jI 1, jR r69, jR x3, jR (some a71)]) (s1 := []) (st' := []) (cd_117 rfl) mt_117 mt_93 rfl rfl rfl (jck_s e74) rfl (jsml_s rfl) rfl (mm_Runs.up (d := 2) (by decide) (ok_93 e76)) ?_
    refine ey_aload_n (cd_117 rfl) f0 ?_
    refine ey_aload_n (cd_117 rfl) f1 ?_
    obtain ⟨a77, e78, e⟩ := jbind e
    refine ey_rs (s0 := [jR x1, jR (some this)]) (s1 := [jR (some a77), jR (some this)]) (by rw [e78]) ?_
    obtain ⟨r79, e80, e⟩ := jbind e
    refine ey_getf_r (cd_117 rfl) mt_117 rfl rfl rfl e80 ?_
    refine ey_iload_n (cd_117 rfl) f2 ?_
    refine ey_bipush (cd_117 rfl) (by decide) ?_
    refine ey_imul (cd_117 rfl) ?_
    refine ey_iload (cd_117 rfl) f5 ?_
    refine ey_iadd (cd_117 rfl) ?_
    refine ey_bipush (cd_117 rfl) (by decide) ?_
    refine ey_imul (cd_117 rfl) ?_
    refine ey_iload (cd_117 rfl) f7 ?_
    refine ey_aload_n (cd_117 rfl) f0 ?_
    obtain ⟨r81, e82, e⟩ := jbind e
    refine ey_getf_r (cd_117 rfl) mt_117 rfl rfl rfl e82 ?_
    obtain ⟨a83, e84, e⟩ := jbind e
    refine ey_rs (s0 := [jR r81, jI x7, jI (((x2 * 9) + x5) * 7), jR r79, jR (some this)]) (s1 := [jR (some a83), jI x7, jI (((x2 * 9) + x5) * 7), jR r79, jR (some this)]) (by rw [e84]) ?_
    obtain ⟨v85, e86, e⟩ := jbind e
    refine ey_getf_i (cd_117 rfl) mt_117 rfl rfl rfl e86 ?_
    refine ey_iload (cd_117 rfl) f6 ?_
    refine ey_isub (cd_117 rfl) ?_
    obtain ⟨u87, e88, e⟩ := jbind e
    obtain ⟨h89, e90, e⟩ := jbind e
    refine ey_cv (s0 := [jI (v85 - x6), jI x7, jI (((x2 * 9) + x5) * 7), jR r79, jR (some this)]) (s1 := []) (st' := []) (cd_117 rfl) mt_117 mt_118 rfl rfl rfl (jck_s e88) rfl (jsml_s rfl) rfl (mm_Runs.up (d := 2) (by decide) (ok_118 e90)) ?_
    refine ey_iinc (cd_117 rfl) mt_117 rfl f5 ?_
    refine ey_goto (cd_117 rfl) rfl ?_
    cases e
    exact K (jup lv 5 (jI (x5 + 1))) f0 f1 f2 f3 (jup_pi (lv := lv) (j := 4) (v := jI (x5 + 1)) (z := x4) f4) rfl
  · rw [if_neg q62] at e
    refine ey_yeq (cd_117 rfl) rfl rfl q62 ?_
    cases e
    exact K lv f8
set_option maxRecDepth 100000 in
theorem jk_117_b100 {L : Nat} {xs : Nat → Int32} {this : Nat} {x1 : Option Nat} {x2 : Int} {x3 : Option Nat} {x4 : Int} {x5 : Int} {x6 : Int} {x7 : Int} {y0 : Int} {h : jH} {o : ((Int × jH) ⊕ ((Int × jH) ⊕ jH))} {r : mm_R} (e : jd_117_b100 this x1 x2 x3 x4 x5 x6 x7 y0 h = some o) (K : jsm (fun s => (∀ lv : jL, lv 0 = some (jR (some this)) → lv 1 = some (jR x1) → lv 2 = some (jI x2) → lv 3 = some (jR x3) → lv 4 = some (jI x4) → lv 5 = some (jI s.1) → ey (mm_xt L xs) 4 117 28 lv [] s.2 r)) (fun x => (jsm (fun y => (∀ lv : jL, lv 8 = some (jI y.1) → ey (mm_xt L xs) 4 117 127 lv [] y.2 r)) (fun z => (∀ lv : jL, lv 0 = some (jR (some this)) → lv 4 = some (jI x4) → ey (mm_xt L xs) 4 117 182 lv [] z r)) x)) o) : ∀ lv : jL, lv 0 = some (jR (some this)) → lv 1 = some (jR x1) → lv 2 = some (jI x2) → lv 3 = some (jR x3) → lv 4 = some (jI x4) → lv 5 = some (jI x5) → lv 6 = some (jI x6) → lv 7 = some (jI x7) → ey (mm_xt L xs) 4 117 100 lv [jI y0] h r := by
  intro lv f0 f1 f2 f3 f4 f5 f6 f7
  unfold jd_117_b100 at e
  refine ey_istore (cd_117 rfl) mt_117 rfl ?_
  refine ey_iload (cd_117 rfl) rfl ?_
  by_cases q49 : (jw y0) = 0
  · rw [if_pos q49] at e
    refine ey_yne (cd_117 rfl) rfl rfl (fun w => w q49) ?_
    refine ey_aload_n (cd_117 rfl) f0 ?_
    refine ey_aload_n (cd_117 rfl) f0 ?_
    obtain ⟨r50, e51, e⟩ := jbind e
    refine ey_getf_r (cd_117 rfl) mt_117 rfl rfl rfl e51 ?_
    refine ey_iload (cd_117 rfl) (jup_pi (lv := lv) (j := 7) (v := jI y0) (z := x7) f7) ?_
    obtain ⟨a52, e53, e⟩ := jbind e
    refine ey_rs (s0 := [jI x7, jR r50, jR (some this)]) (s1 := [jI x7, jR (some a52), jR (some this)]) (by rw [e53]) ?_
    obtain ⟨u54, e55, e⟩ := jbind e
    obtain ⟨v56, e57, e⟩ := jbind e
    refine ey_cv (s0 := [jI x7, jR (some a52), jR (some this)]) (s1 := [jR (some this)]) (st' := [jI v56, jR (some this)]) (cd_117 rfl) mt_117 mt_76 rfl rfl rfl (jck_s e55) rfl (jsml_s rfl) rfl (mm_Runs.up (d := 1) (by decide) (ok_76 e57)) ?_
    obtain ⟨u58, e59, e⟩ := jbind e
    obtain ⟨q60, e61, e⟩ := jbind e
    refine ey_cv (s0 := [jI v56, jR (some this)]) (s1 := []) (st' := [jI q60.1]) (cd_117 rfl) mt_117 mt_119 rfl rfl rfl (jck_s e59) rfl (jsml_s rfl) rfl (ok_119 e61) ?_
    refine ey_istore (cd_117 rfl) mt_117 rfl ?_
    exact jk_117_b122 e K (jup (jup lv 8 (jI y0)) 8 (jI q60.1)) f0 f1 f2 f3 f4 f5 f6 (jup_pi (lv := (jup lv 8 (jI y0))) (j := 7) (v := jI q60.1) (z := x7) (jup_pi (lv := lv) (j := 7) (v := jI y0) (z := x7) f7)) rfl
  · rw [if_neg q49] at e
    refine ey_zne (cd_117 rfl) rfl rfl q49 ?_
    exact jk_117_b122 e K (jup lv 8 (jI y0)) f0 f1 f2 f3 f4 f5 f6 (jup_pi (lv := lv) (j := 7) (v := jI y0) (z := x7) f7) rfl
set_option maxRecDepth 100000 in
theorem jk_117_s28 {L : Nat} {xs : Nat → Int32} {this : Nat} {x1 : Option Nat} {x2 : Int} {x3 : Option Nat} {x4 : Int} {x5 : Int} {h : jH} {o : ((Int × jH) ⊕ ((Int × jH) ⊕ jH))} {r : mm_R} (e : jd_117_s28 this x1 x2 x3 x4 x5 h = some o) (K : jsm (fun s => (∀ lv : jL, lv 0 = some (jR (some this)) → lv 1 = some (jR x1) → lv 2 = some (jI x2) → lv 3 = some (jR x3) → lv 4 = some (jI x4) → lv 5 = some (jI s.1) → ey (mm_xt L xs) 4 117 28 lv [] s.2 r)) (fun x => (jsm (fun y => (∀ lv : jL, lv 8 = some (jI y.1) → ey (mm_xt L xs) 4 117 127 lv [] y.2 r)) (fun z => (∀ lv : jL, lv 0 = some (jR (some this)) → lv 4 = some (jI x4) → ey (mm_xt L xs) 4 117 182 lv [] z r)) x)) o) : ∀ lv : jL, lv 0 = some (jR (some this)) → lv 1 = some (jR x1) → lv 2 = some (jI x2) → lv 3 = some (jR x3) → lv 4 = some (jI x4) → lv 5 = some (jI x5) → ey (mm_xt L xs) 4 117 28 lv [] h r := by
  intro lv f0 f1 f2 f3 f4 f5
  unfold jd_117_s28 at e
  refine ey_iload (cd_117 rfl) f5 ?_
  refine ey_iload (cd_117 rfl) f4 ?_
  by_cases q15 : (jw x4) ≤ (jw x5)
  · rw [if_pos q15] at e
    refine ey_cge (cd_117 rfl) rfl rfl rfl q15 ?_
    cases e
    exact K lv f0 f4
  · rw [if_neg q15] at e
    refine ey_nge (cd_117 rfl) rfl rfl rfl q15 ?_
    refine ey_aload_n (cd_117 rfl) f0 ?_
    refine ey_iload (cd_117 rfl) f5 ?_
    obtain ⟨h16, e17, e⟩ := jbind e
    refine ey_putf_i (cd_117 rfl) mt_117 rfl rfl rfl e17 ?_
    refine ey_aload_n (cd_117 rfl) f0 ?_
    obtain ⟨r18, e19, e⟩ := jbind e
    refine ey_getf_r (cd_117 rfl) mt_117 rfl rfl rfl e19 ?_
    refine ey_iload (cd_117 rfl) f5 ?_
    obtain ⟨a20, e21, e⟩ := jbind e
    refine ey_rs (s0 := [jI x5, jR r18]) (s1 := [jI x5, jR (some a20)]) (by rw [e21]) ?_
    obtain ⟨u22, e23, e⟩ := jbind e
    obtain ⟨h24, e25, e⟩ := jbind e
    refine ey_cv (s0 := [jI x5, jR (some a20)]) (s1 := []) (st' := []) (cd_117 rfl) mt_117 mt_74 rfl rfl rfl (jck_s e23) rfl (jsml_s rfl) rfl (mm_Runs.up (d := 1) (by decide) (ok_74 e25)) ?_
    refine ey_aload_n (cd_117 rfl) f0 ?_
    obtain ⟨r26, e27, e⟩ := jbind e
    refine ey_getf_r (cd_117 rfl) mt_117 rfl rfl rfl e27 ?_
    obtain ⟨a28, e29, e⟩ := jbind e
    refine ey_rs (s0 := [jR r26]) (s1 := [jR (some a28)]) (by rw [e29]) ?_
    obtain ⟨v30, e31, e⟩ := jbind e
    refine ey_getf_i (cd_117 rfl) mt_117 rfl rfl rfl e31 ?_
    refine ey_istore (cd_117 rfl) mt_117 rfl ?_
    refine ey_aload_n (cd_117 rfl) f0 ?_
    obtain ⟨r32, e33, e⟩ := jbind e
    refine ey_getf_r (cd_117 rfl) mt_117 rfl rfl rfl e33 ?_
    obtain ⟨a34, e35, e⟩ := jbind e
    refine ey_rs (s0 := [jR r32]) (s1 := [jR (some a34)]) (by rw [e35]) ?_
    obtain ⟨u36, e37, e⟩ := jbind e
    obtain ⟨q38, e39, e⟩ := jbind e
    refine ey_cv (s0 := [jR (some a34)]) (s1 := []) (st' := [jI q38.1]) (cd_117 rfl) mt_117 mt_2 rfl rfl rfl (jck_s e37) rfl (jsml_s rfl) rfl (mm_Runs.up (d := 2) (by decide) (ok_2 e39)) ?_
    refine ey_istore (cd_117 rfl) mt_117 rfl ?_
    refine ey_iload (cd_117 rfl) rfl ?_
    by_cases q40 : 0 ≤ (jw q38.1)
    · rw [if_pos q40] at e
      refine ey_zge (cd_117 rfl) rfl rfl q40 ?_
      refine ey_iload (cd_117 rfl) rfl ?_
      refine ey_aload_n (cd_117 rfl) f0 ?_
      obtain ⟨r41, e42, e⟩ := jbind e
      refine ey_getf_r (cd_117 rfl) mt_117 rfl rfl rfl e42 ?_
      obtain ⟨a43, e44, e⟩ := jbind e
      refine ey_rs (s0 := [jR r41, jI q38.1]) (s1 := [jR (some a43), jI q38.1]) (by rw [e44]) ?_
      obtain ⟨u45, e46, e⟩ := jbind e
      obtain ⟨v47, e48, e⟩ := jbind e
      refine ey_cv (s0 := [jR (some a43), jI q38.1]) (s1 := [jI q38.1]) (st' := [jI v47, jI q38.1]) (cd_117 rfl) mt_117 mt_75 rfl rfl rfl (jck_s e46) rfl (jsml_s rfl) rfl (mm_Runs.up (d := 1) (by decide) (ok_75 e48)) ?_
      have K91 : ∀ lv : jL, lv 0 = some (jR (some this)) → lv 1 = some (jR x1) → lv 2 = some (jI x2) → lv 3 = some (jR x3) → lv 4 = some (jI x4) → lv 5 = some (jI x5) → lv 6 = some (jI v30) → lv 7 = some (jI q38.1) → ey (mm_xt L xs) 4 117 100 lv [jI (if (jw q38.1) < (jw v47) then 0 else 2)] q38.2 r := by
        intro lv g0 g1 g2 g3 g4 g5 g6 g7
        exact jk_117_b100 e K lv g0 g1 g2 g3 g4 g5 g6 g7
      by_cases q92 : (jw q38.1) < (jw v47)
      · refine ey_clt (cd_117 rfl) rfl rfl rfl q92 ?_
        refine ey_iconst (cd_117 rfl) ?_
        exact ey_rs (s0 := [jI 0]) (s1 := [jI (if (jw q38.1) < (jw v47) then 0 else 2)]) (by rw [show ((if (jw q38.1) < (jw v47) then 0 else 2) : Int) = 0 from (if_pos q92)]) (K91 (jup (jup lv 6 (jI v30)) 7 (jI q38.1)) f0 f1 f2 f3 f4 (jup_o rfl (jup_pi (lv := lv) (j := 5) (v := jI v30) (z := x5) f5)) (jup_pi (lv := (jup lv 6 (jI v30))) (j := 6) (v := jI q38.1) (z := v30) rfl) rfl)
      · refine ey_nlt (cd_117 rfl) rfl rfl rfl q92 ?_
        refine ey_iconst (cd_117 rfl) ?_
        refine ey_goto (cd_117 rfl) rfl ?_
        exact ey_rs (s0 := [jI 2]) (s1 := [jI (if (jw q38.1) < (jw v47) then 0 else 2)]) (by rw [show ((if (jw q38.1) < (jw v47) then 0 else 2) : Int) = 2 from (if_neg q92)]) (K91 (jup (jup lv 6 (jI v30)) 7 (jI q38.1)) f0 f1 f2 f3 f4 (jup_o rfl (jup_pi (lv := lv) (j := 5) (v := jI v30) (z := x5) f5)) (jup_pi (lv := (jup lv 6 (jI v30))) (j := 6) (v := jI q38.1) (z := v30) rfl) rfl)
    · rw [if_neg q40] at e
      refine ey_yge (cd_117 rfl) rfl rfl q40 ?_
      refine ey_aload_n (cd_117 rfl) f0 ?_
      obtain ⟨r93, e94, e⟩ := jbind e
      refine ey_getf_r (cd_117 rfl) mt_117 rfl rfl rfl e94 ?_
      obtain ⟨a95, e96, e⟩ := jbind e
      refine ey_rs (s0 := [jR r93]) (s1 := [jR (some a95)]) (by rw [e96]) ?_
      obtain ⟨v97, e98, e⟩ := jbind e
      refine ey_getf_i (cd_117 rfl) mt_117 rfl rfl rfl e98 ?_
      refine ey_goto (cd_117 rfl) rfl ?_
      exact jk_117_b100 e K (jup (jup lv 6 (jI v30)) 7 (jI q38.1)) f0 f1 f2 f3 f4 (jup_o rfl (jup_pi (lv := lv) (j := 5) (v := jI v30) (z := x5) f5)) (jup_pi (lv := (jup lv 6 (jI v30))) (j := 6) (v := jI q38.1) (z := v30) rfl) rfl
theorem jk_117_l28 {L : Nat} {xs : Nat → Int32} {this : Nat} {x1 : Option Nat} {x2 : Int} {x3 : Option Nat} {x4 : Int} {x5 : Int} {h : jH} {x : ((Int × jH) ⊕ jH)} {r : mm_R} (e : jd_117_l28 this x1 x2 x3 x4 x5 h = some x) (K : (jsm (fun y => (∀ lv : jL, lv 8 = some (jI y.1) → ey (mm_xt L xs) 4 117 127 lv [] y.2 r)) (fun z => (∀ lv : jL, lv 0 = some (jR (some this)) → lv 4 = some (jI x4) → ey (mm_xt L xs) 4 117 182 lv [] z r)) x)) : ∀ lv : jL, lv 0 = some (jR (some this)) → lv 1 = some (jR x1) → lv 2 = some (jI x2) → lv 3 = some (jR x3) → lv 4 = some (jI x4) → lv 5 = some (jI x5) → ey (mm_xt L xs) 4 117 28 lv [] h r := by
  unfold jd_117_l28 at e
  exact jlp_ok2 (P := fun s => ∀ lv : jL, lv 0 = some (jR (some this)) → lv 1 = some (jR x1) → lv 2 = some (jI x2) → lv 3 = some (jR x3) → lv 4 = some (jI x4) → lv 5 = some (jI s.1) → ey (mm_xt L xs) 4 117 28 lv [] s.2 r) (Q := fun x => (jsm (fun y => (∀ lv : jL, lv 8 = some (jI y.1) → ey (mm_xt L xs) 4 117 127 lv [] y.2 r)) (fun z => (∀ lv : jL, lv 0 = some (jR (some this)) → lv 4 = some (jI x4) → ey (mm_xt L xs) 4 117 182 lv [] z r)) x)) (fun s q hq hk => jk_117_s28 hq hk) jfu _ x e K
set_option maxRecDepth 100000 in
theorem ok_117 {L : Nat} {xs : Nat → Int32} {this : Nat} {p0 : Option Nat} {p1 : Int} {h : jH} {o : (Int × jH)} (e : jd_117 this p0 p1 h = some o) : mm_Runs (mm_xt L xs) 5 117 ([jR (some this), jR p0, jI p1].map jcv) (jaH h) (.inl (some (jcv (jI o.1)), jaH o.2)) := by
  refine ey_run0 _ mt_117 (jsl_s rfl) ?_
  unfold jd_117 at e
  refine ey_aload_n (cd_117 rfl) rfl ?_
  obtain ⟨r1, e2, e⟩ := jbind e
  refine ey_getf_r (cd_117 rfl) mt_117 rfl rfl rfl e2 ?_
  obtain ⟨a3, e4, e⟩ := jbind e
  refine ey_rs (s0 := [jR r1]) (s1 := [jR (some a3)]) (by rw [e4]) ?_
  obtain ⟨r5, e6, e⟩ := jbind e
  refine ey_getf_r (cd_117 rfl) mt_117 rfl rfl rfl e6 ?_
  refine ey_astore_n (cd_117 rfl) mt_117 rfl ?_
  refine ey_aload_n (cd_117 rfl) rfl ?_
  obtain ⟨a7, e8, e⟩ := jbind e
  refine ey_rs (s0 := [jR r5]) (s1 := [jR (some a7)]) (by rw [e8]) ?_
  obtain ⟨v9, e10, e⟩ := jbind e
  refine ey_getf_i (cd_117 rfl) mt_117 rfl rfl rfl e10 ?_
  refine ey_bipush (cd_117 rfl) (by decide) ?_
  refine ey_idiv (cd_117 rfl) (by decide) ?_
  refine ey_aload_n (cd_117 rfl) rfl ?_
  obtain ⟨a11, e12, e⟩ := jbind e
  refine ey_rs (s0 := [jR r5, jI (jdiv v9 8)]) (s1 := [jR (some a11), jI (jdiv v9 8)]) (by rw [e12]) ?_
  obtain ⟨v13, e14, e⟩ := jbind e
  refine ey_getf_i (cd_117 rfl) mt_117 rfl rfl rfl e14 ?_
  refine ey_bipush (cd_117 rfl) (by decide) ?_
  refine ey_idiv (cd_117 rfl) (by decide) ?_
  refine ey_imul (cd_117 rfl) ?_
  refine ey_istore (cd_117 rfl) mt_117 rfl ?_
  refine ey_iconst (cd_117 rfl) ?_
  refine ey_istore (cd_117 rfl) mt_117 rfl ?_
  obtain ⟨x99, e100, e⟩ := jbind e
  refine jk_117_l28 e100 ?_ (jup (jup (jup (jlf (jla 0 [jR (some this), jR p0, jI p1])) 3 (jR r5)) 4 (jI ((jdiv v9 8) * (jdiv v13 8)))) 5 (jI 0)) rfl rfl (jup_o rfl (jup_o rfl (jup_pi (lv := (jlf (jla 0 [jR (some this), jR p0, jI p1]))) (j := 2) (v := jR r5) (z := p1) rfl))) (jup_o rfl (jup_pr (lv := (jup (jlf (jla 0 [jR (some this), jR p0, jI p1])) 3 (jR r5))) (j := 3) (v := jI ((jdiv v9 8) * (jdiv v13 8))) (z := r5) rfl)) (jup_pi (lv := (jup (jup (jlf (jla 0 [jR (some this), jR p0, jI p1])) 3 (jR r5)) 4 (jI ((jdiv v9 8) * (jdiv v13 8))))) (j := 4) (v := jI 0) (z := ((jdiv v9 8) * (jdiv v13 8))) rfl) rfl
  cases x99 with
  | inl y101 =>
    replace e : (some (y101.1, y101.2) : Option (Int × jH)) = some o := e
    intro lv g8
    refine ey_iload (cd_117 rfl) g8 ?_
    cases e
    exact ey_reti (cd_117 rfl) mt_117 rfl
  | inr y102 =>
    replace e : (((jpi y102 this 8 6 ((jdiv v9 8) * (jdiv v13 8))).bind fun h103 => some (0, h103)) : Option (Int × jH)) = some o := e
    intro lv g0 g4
    refine ey_aload_n (cd_117 rfl) g0 ?_
    refine ey_iload (cd_117 rfl) g4 ?_
    obtain ⟨h103, e104, e⟩ := jbind e
    refine ey_putf_i (cd_117 rfl) mt_117 rfl rfl rfl e104 ?_
    refine ey_iconst (cd_117 rfl) ?_
    cases e
    exact ey_reti (cd_117 rfl) mt_117 rfl
theorem cd_133 {pc : Nat} {i : Instr × Nat} (h : mm_lk mm_c133 pc = some i) : mm_cd 133 pc = some i := h
theorem mt_133 : mm_MT 133 = (10, 8, some .int, 2, 0, []) := rfl
set_option maxRecDepth 100000 in
theorem jk_133_s45 {L : Nat} {xs : Nat → Int32} {this : Nat} {x1 : Option Nat} {x2 : Int} {x4 : Int} {x5 : Int} {x3 : Int} {x6 : Int} {h : jH} {o : ((Int × Int × jH) ⊕ (Int × jH))} {r : mm_R} (e : jd_133_s45 this x1 x2 x4 x5 x3 x6 h = some o) (K : jsm (fun s => (∀ lv : jL, lv 0 = some (jR (some this)) → lv 1 = some (jR x1) → lv 2 = some (jI x2) → lv 3 = some (jI s.1) → lv 4 = some (jI x4) → lv 5 = some (jI x5) → lv 6 = some (jI s.2.1) → ey (mm_xt L xs) 2 133 45 lv [] s.2.2 r)) (fun x => (∀ lv : jL, lv 0 = some (jR (some this)) → lv 1 = some (jR x1) → lv 2 = some (jI x2) → lv 3 = some (jI x.1) → lv 4 = some (jI x4) → ey (mm_xt L xs) 2 133 68 lv [] x.2 r)) o) : ∀ lv : jL, lv 0 = some (jR (some this)) → lv 1 = some (jR x1) → lv 2 = some (jI x2) → lv 3 = some (jI x3) → lv 4 = some (jI x4) → lv 5 = some (jI x5) → lv 6 = some (jI x6) → ey (mm_xt L xs) 2 133 45 lv [] h r := by
  intro lv f0 f1 f2 f3 f4 f5 f6
  unfold jd_133_s45 at e
  refine ey_iload (cd_133 rfl) f6 ?_
  refine ey_iload (cd_133 rfl) f5 ?_
  by_cases q11 : (jw x5) ≤ (jw x6)
  · rw [if_pos q11] at e
    refine ey_cge (cd_133 rfl) rfl rfl rfl q11 ?_
    cases e
    exact K lv f0 f1 f2 f3 f4
  · rw [if_neg q11] at e
    refine ey_nge (cd_133 rfl) rfl rfl rfl q11 ?_
    refine ey_aload_n (cd_133 rfl) f0 ?_
    obtain ⟨r12, e13, e⟩ := jbind e
    refine ey_getf_r (cd_133 rfl) mt_133 rfl rfl rfl e13 ?_
    refine ey_iload_n (cd_133 rfl) f3 ?_
    refine ey_iinc (cd_133 rfl) mt_133 rfl f3 ?_
    refine ey_iconst (cd_133 rfl) ?_
    obtain ⟨a14, e15, e⟩ := jbind e
    refine ey_rs (s0 := [jI 0, jI x3, jR r12]) (s1 := [jI 0, jI x3, jR (some a14)]) (by rw [e15]) ?_
    obtain ⟨h16, e17, e⟩ := jbind e
    refine ey_iast (cd_133 rfl) e17 ?_
    refine ey_iinc (cd_133 rfl) mt_133 rfl f6 ?_
    refine ey_goto (cd_133 rfl) rfl ?_
    cases e
    exact K (jup (jup lv 3 (jI (x3 + 1))) 6 (jI (x6 + 1))) f0 f1 (jup_o rfl (jup_pi (lv := lv) (j := 2) (v := jI (x3 + 1)) (z := x2) f2)) rfl f4 (jup_pi (lv := (jup lv 3 (jI (x3 + 1)))) (j := 5) (v := jI (x6 + 1)) (z := x5) f5) rfl
theorem jk_133_l45 {L : Nat} {xs : Nat → Int32} {this : Nat} {x1 : Option Nat} {x2 : Int} {x4 : Int} {x5 : Int} {x3 : Int} {x6 : Int} {h : jH} {x : (Int × jH)} {r : mm_R} (e : jd_133_l45 this x1 x2 x4 x5 x3 x6 h = some x) (K : (∀ lv : jL, lv 0 = some (jR (some this)) → lv 1 = some (jR x1) → lv 2 = some (jI x2) → lv 3 = some (jI x.1) → lv 4 = some (jI x4) → ey (mm_xt L xs) 2 133 68 lv [] x.2 r)) : ∀ lv : jL, lv 0 = some (jR (some this)) → lv 1 = some (jR x1) → lv 2 = some (jI x2) → lv 3 = some (jI x3) → lv 4 = some (jI x4) → lv 5 = some (jI x5) → lv 6 = some (jI x6) → ey (mm_xt L xs) 2 133 45 lv [] h r := by
  unfold jd_133_l45 at e
  exact jlp_ok2 (P := fun s => ∀ lv : jL, lv 0 = some (jR (some this)) → lv 1 = some (jR x1) → lv 2 = some (jI x2) → lv 3 = some (jI s.1) → lv 4 = some (jI x4) → lv 5 = some (jI x5) → lv 6 = some (jI s.2.1) → ey (mm_xt L xs) 2 133 45 lv [] s.2.2 r) (Q := fun x => (∀ lv : jL, lv 0 = some (jR (some this)) → lv 1 = some (jR x1) → lv 2 = some (jI x2) → lv 3 = some (jI x.1) → lv 4 = some (jI x4) → ey (mm_xt L xs) 2 133 68 lv [] x.2 r)) (fun s q hq hk => jk_133_s45 hq hk) jfu _ x e K
set_option maxRecDepth 100000 in
theorem jk_133_b130 {L : Nat} {xs : Nat → Int32} {this : Nat} {x1 : Option Nat} {x2 : Int} {x3 : Int} {x4 : Int} {h : jH} {o : ((Int × Int × jH) ⊕ (jH ⊕ (jH ⊕ (jH ⊕ (jH ⊕ jH)))))} {r : mm_R} (e : jd_133_b130 this x1 x2 x3 x4 h = some o) (K : jsm (fun s => (∀ lv : jL, lv 0 = some (jR (some this)) → lv 1 = some (jR x1) → lv 2 = some (jI x2) → lv 3 = some (jI s.1) → lv 4 = some (jI s.2.1) → ey (mm_xt L xs) 2 133 5 lv [] s.2.2 r)) (fun x => (jsm (fun y => (∀ lv : jL, lv 1 = some (jR x1) → ey (mm_xt L xs) 2 133 27 lv [] y r)) (fun z => (jsm (fun y => (∀ lv : jL, ey (mm_xt L xs) 2 133 40 lv [] y r)) (fun z => (jsm (fun y => (∀ lv : jL, lv 1 = some (jR x1) → ey (mm_xt L xs) 2 133 84 lv [] y r)) (fun z => (jsm (fun y => (∀ lv : jL, ey (mm_xt L xs) 2 133 117 lv [] y r)) (fun z => (∀ lv : jL, ey (mm_xt L xs) 2 133 136 lv [] z r)) z)) z)) z)) x)) o) : ∀ lv : jL, lv 0 = some (jR (some this)) → lv 1 = some (jR x1) → lv 2 = some (jI x2) → lv 3 = some (jI x3) → lv 4 = some (jI x4) → ey (mm_xt L xs) 2 133 130 lv [] h r := by
  intro lv f0 f1 f2 f3 f4
  unfold jd_133_b130 at e
  refine ey_iinc (cd_133 rfl) mt_133 rfl f4 ?_
  refine ey_goto (cd_133 rfl) rfl ?_
  cases e
  exact K (jup lv 4 (jI (x4 + 1))) f0 f1 f2 (jup_pi (lv := lv) (j := 3) (v := jI (x4 + 1)) (z := x3) f3) rfl
set_option maxRecDepth 100000 in
theorem jk_133_s5 {L : Nat} {xs : Nat → Int32} {this : Nat} {x1 : Option Nat} {x2 : Int} {x3 : Int} {x4 : Int} {h : jH} {o : ((Int × Int × jH) ⊕ (jH ⊕ (jH ⊕ (jH ⊕ (jH ⊕ jH)))))} {r : mm_R} (e : jd_133_s5 this x1 x2 x3 x4 h = some o) (K : jsm (fun s => (∀ lv : jL, lv 0 = some (jR (some this)) → lv 1 = some (jR x1) → lv 2 = some (jI x2) → lv 3 = some (jI s.1) → lv 4 = some (jI s.2.1) → ey (mm_xt L xs) 2 133 5 lv [] s.2.2 r)) (fun x => (jsm (fun y => (∀ lv : jL, lv 1 = some (jR x1) → ey (mm_xt L xs) 2 133 27 lv [] y r)) (fun z => (jsm (fun y => (∀ lv : jL, ey (mm_xt L xs) 2 133 40 lv [] y r)) (fun z => (jsm (fun y => (∀ lv : jL, lv 1 = some (jR x1) → ey (mm_xt L xs) 2 133 84 lv [] y r)) (fun z => (jsm (fun y => (∀ lv : jL, ey (mm_xt L xs) 2 133 117 lv [] y r)) (fun z => (∀ lv : jL, ey (mm_xt L xs) 2 133 136 lv [] z r)) z)) z)) z)) x)) o) : ∀ lv : jL, lv 0 = some (jR (some this)) → lv 1 = some (jR x1) → lv 2 = some (jI x2) → lv 3 = some (jI x3) → lv 4 = some (jI x4) → ey (mm_xt L xs) 2 133 5 lv [] h r := by
  intro lv f0 f1 f2 f3 f4
  unfold jd_133_s5 at e
  refine ey_iload (cd_133 rfl) f4 ?_
  refine ey_iload_n (cd_133 rfl) f2 ?_
  by_cases q1 : (jw x2) ≤ (jw x4)
  · rw [if_pos q1] at e
    refine ey_cge (cd_133 rfl) rfl rfl rfl q1 ?_
    cases e
    exact K lv 
  · rw [if_neg q1] at e
    refine ey_nge (cd_133 rfl) rfl rfl rfl q1 ?_
    refine ey_iload_n (cd_133 rfl) f3 ?_
    refine ey_iload_n (cd_133 rfl) f2 ?_
    by_cases q2 : (jw x2) ≤ (jw x3)
    · rw [if_pos q2] at e
      refine ey_cge (cd_133 rfl) rfl rfl rfl q2 ?_
      cases e
      exact K lv 
    · rw [if_neg q2] at e
      refine ey_nge (cd_133 rfl) rfl rfl rfl q2 ?_
      refine ey_aload_n (cd_133 rfl) f1 ?_
      obtain ⟨a3, e4, e⟩ := jbind e
      refine ey_rs (s0 := [jR x1]) (s1 := [jR (some a3)]) (by rw [e4]) ?_
      obtain ⟨u5, e6, e⟩ := jbind e
      obtain ⟨q7, e8, e⟩ := jbind e
      refine ey_cv (s0 := [jR (some a3)]) (s1 := []) (st' := [jI q7.1]) (cd_133 rfl) mt_133 mt_2 rfl rfl rfl (jck_s e6) rfl (jsml_s rfl) rfl (ok_2 e8) ?_
      refine ey_istore (cd_133 rfl) mt_133 rfl ?_
      refine ey_iload (cd_133 rfl) rfl ?_
      by_cases q9 : 0 ≤ (jw q7.1)
      · rw [if_pos q9] at e
        refine ey_zge (cd_133 rfl) rfl rfl q9 ?_
        refine ey_iload (cd_133 rfl) rfl ?_
        refine ey_iload_n (cd_133 rfl) f2 ?_
        refine ey_iload_n (cd_133 rfl) f3 ?_
        refine ey_isub (cd_133 rfl) ?_
        by_cases q10 : (jw q7.1) ≤ (jw (x2 - x3))
        · rw [if_pos q10] at e
          refine ey_cle (cd_133 rfl) rfl rfl rfl q10 ?_
          refine ey_iconst (cd_133 rfl) ?_
          refine ey_istore (cd_133 rfl) mt_133 rfl ?_
          obtain ⟨x18, e19, e⟩ := jbind e
          refine jk_133_l45 e19 ?_ (jup (jup lv 5 (jI q7.1)) 6 (jI 0)) f0 f1 f2 f3 (jup_o rfl (jup_pi (lv := lv) (j := 4) (v := jI q7.1) (z := x4) f4)) (jup_pi (lv := (jup lv 5 (jI q7.1))) (j := 5) (v := jI 0) (z := q7.1) rfl) rfl
          intro lv g0 g1 g2 g3 g4
          refine ey_iload_n (cd_133 rfl) g3 ?_
          refine ey_iload_n (cd_133 rfl) g2 ?_
          by_cases q20 : (jw x2) ≤ (jw x18.1)
          · rw [if_pos q20] at e
            refine ey_cge (cd_133 rfl) rfl rfl rfl q20 ?_
            exact jk_133_b130 e K lv g0 g1 g2 g3 g4
          · rw [if_neg q20] at e
            refine ey_nge (cd_133 rfl) rfl rfl rfl q20 ?_
            refine ey_aload_n (cd_133 rfl) g1 ?_
            obtain ⟨a21, e22, e⟩ := jbind e
            refine ey_rs (s0 := [jR x1]) (s1 := [jR (some a21)]) (by rw [e22]) ?_
            obtain ⟨u23, e24, e⟩ := jbind e
            obtain ⟨q25, e26, e⟩ := jbind e
            refine ey_cv (s0 := [jR (some a21)]) (s1 := []) (st' := [jI q25.1]) (cd_133 rfl) mt_133 mt_2 rfl rfl rfl (jck_s e24) rfl (jsml_s rfl) rfl (ok_2 e26) ?_
            refine ey_istore (cd_133 rfl) mt_133 rfl ?_
            refine ey_iload (cd_133 rfl) rfl ?_
            by_cases q27 : 0 ≤ (jw q25.1)
            · rw [if_pos q27] at e
              refine ey_zge (cd_133 rfl) rfl rfl q27 ?_
              refine ey_iload (cd_133 rfl) rfl ?_
              refine ey_cs (s0 := [jI q25.1]) (s1 := []) (st' := [jI (jd_14 q25.1)]) (cd_133 rfl) mt_133 mt_14 rfl (by decide) rfl rfl (jsml_s rfl) rfl (mm_Runs.up (d := 1) (by decide) (ok_14 )) ?_
              refine ey_istore (cd_133 rfl) mt_133 rfl ?_
              refine ey_iload (cd_133 rfl) rfl ?_
              by_cases q28 : (jw (jd_14 q25.1)) = 0
              · rw [if_pos q28] at e
                refine ey_zeq (cd_133 rfl) rfl rfl q28 ?_
                cases e
                exact K (jup (jup lv 6 (jI q25.1)) 7 (jI (jd_14 q25.1))) 
              · rw [if_neg q28] at e
                refine ey_yeq (cd_133 rfl) rfl rfl q28 ?_
                refine ey_iload (cd_133 rfl) rfl ?_
                refine ey_sipush (cd_133 rfl) (by decide) ?_
                by_cases q29 : (jw (jd_14 q25.1)) < (-4095)
                · rw [if_pos q29] at e
                  refine ey_clt (cd_133 rfl) rfl rfl (show jw (-4095) = (-4095) from by decide) q29 ?_
                  cases e
                  exact K (jup (jup lv 6 (jI q25.1)) 7 (jI (jd_14 q25.1))) 
                · rw [if_neg q29] at e
                  refine ey_nlt (cd_133 rfl) rfl rfl (show jw (-4095) = (-4095) from by decide) q29 ?_
                  refine ey_iload (cd_133 rfl) rfl ?_
                  refine ey_sipush (cd_133 rfl) (by decide) ?_
                  by_cases q30 : (jw (jd_14 q25.1)) ≤ 4095
                  · rw [if_pos q30] at e
                    refine ey_cle (cd_133 rfl) rfl rfl (show jw 4095 = 4095 from by decide) q30 ?_
                    refine ey_aload_n (cd_133 rfl) g0 ?_
                    obtain ⟨r31, e32, e⟩ := jbind e
                    refine ey_getf_r (cd_133 rfl) mt_133 rfl rfl rfl e32 ?_
                    refine ey_iload_n (cd_133 rfl) g3 ?_
                    refine ey_iinc (cd_133 rfl) mt_133 rfl g3 ?_
                    refine ey_iload (cd_133 rfl) rfl ?_
                    obtain ⟨a33, e34, e⟩ := jbind e
                    refine ey_rs (s0 := [jI (jd_14 q25.1), jI x18.1, jR r31]) (s1 := [jI (jd_14 q25.1), jI x18.1, jR (some a33)]) (by rw [e34]) ?_
                    obtain ⟨h35, e36, e⟩ := jbind e
                    refine ey_iast (cd_133 rfl) e36 ?_
                    exact jk_133_b130 e K (jup (jup (jup lv 6 (jI q25.1)) 7 (jI (jd_14 q25.1))) 3 (jI (x18.1 + 1))) g0 g1 (jup_pi (lv := (jup (jup lv 6 (jI q25.1)) 7 (jI (jd_14 q25.1)))) (j := 2) (v := jI (x18.1 + 1)) (z := x2) g2) rfl g4
                  · rw [if_neg q30] at e
                    refine ey_nle (cd_133 rfl) rfl rfl (show jw 4095 = 4095 from by decide) q30 ?_
                    cases e
                    exact K (jup (jup lv 6 (jI q25.1)) 7 (jI (jd_14 q25.1))) 
            · rw [if_neg q27] at e
              refine ey_yge (cd_133 rfl) rfl rfl q27 ?_
              cases e
              exact K (jup lv 6 (jI q25.1)) g1
        · rw [if_neg q10] at e
          refine ey_nle (cd_133 rfl) rfl rfl rfl q10 ?_
          cases e
          exact K (jup lv 5 (jI q7.1)) 
      · rw [if_neg q9] at e
        refine ey_yge (cd_133 rfl) rfl rfl q9 ?_
        cases e
        exact K (jup lv 5 (jI q7.1)) f1
theorem jk_133_l5 {L : Nat} {xs : Nat → Int32} {this : Nat} {x1 : Option Nat} {x2 : Int} {x3 : Int} {x4 : Int} {h : jH} {x : (jH ⊕ (jH ⊕ (jH ⊕ (jH ⊕ jH))))} {r : mm_R} (e : jd_133_l5 this x1 x2 x3 x4 h = some x) (K : (jsm (fun y => (∀ lv : jL, lv 1 = some (jR x1) → ey (mm_xt L xs) 2 133 27 lv [] y r)) (fun z => (jsm (fun y => (∀ lv : jL, ey (mm_xt L xs) 2 133 40 lv [] y r)) (fun z => (jsm (fun y => (∀ lv : jL, lv 1 = some (jR x1) → ey (mm_xt L xs) 2 133 84 lv [] y r)) (fun z => (jsm (fun y => (∀ lv : jL, ey (mm_xt L xs) 2 133 117 lv [] y r)) (fun z => (∀ lv : jL, ey (mm_xt L xs) 2 133 136 lv [] z r)) z)) z)) z)) x)) : ∀ lv : jL, lv 0 = some (jR (some this)) → lv 1 = some (jR x1) → lv 2 = some (jI x2) → lv 3 = some (jI x3) → lv 4 = some (jI x4) → ey (mm_xt L xs) 2 133 5 lv [] h r := by
  unfold jd_133_l5 at e
  exact jlp_ok2 (P := fun s => ∀ lv : jL, lv 0 = some (jR (some this)) → lv 1 = some (jR x1) → lv 2 = some (jI x2) → lv 3 = some (jI s.1) → lv 4 = some (jI s.2.1) → ey (mm_xt L xs) 2 133 5 lv [] s.2.2 r) (Q := fun x => (jsm (fun y => (∀ lv : jL, lv 1 = some (jR x1) → ey (mm_xt L xs) 2 133 27 lv [] y r)) (fun z => (jsm (fun y => (∀ lv : jL, ey (mm_xt L xs) 2 133 40 lv [] y r)) (fun z => (jsm (fun y => (∀ lv : jL, lv 1 = some (jR x1) → ey (mm_xt L xs) 2 133 84 lv [] y r)) (fun z => (jsm (fun y => (∀ lv : jL, ey (mm_xt L xs) 2 133 117 lv [] y r)) (fun z => (∀ lv : jL, ey (mm_xt L xs) 2 133 136 lv [] z r)) z)) z)) z)) x)) (fun s q hq hk => jk_133_s5 hq hk) jfu _ x e K
set_option maxRecDepth 100000 in
theorem ok_133 {L : Nat} {xs : Nat → Int32} {this : Nat} {p0 : Option Nat} {p1 : Int} {h : jH} {o : (Int × jH)} (e : jd_133 this p0 p1 h = some o) : mm_Runs (mm_xt L xs) 3 133 ([jR (some this), jR p0, jI p1].map jcv) (jaH h) (.inl (some (jcv (jI o.1)), jaH o.2)) := by
  refine ey_run0 _ mt_133 (jsl_s rfl) ?_
  unfold jd_133 at e
  refine ey_iconst (cd_133 rfl) ?_
  refine ey_istore_n (cd_133 rfl) mt_133 rfl ?_
  refine ey_iconst (cd_133 rfl) ?_
  refine ey_istore (cd_133 rfl) mt_133 rfl ?_
  obtain ⟨x37, e38, e⟩ := jbind e
  refine jk_133_l5 e38 ?_ (jup (jup (jlf (jla 0 [jR (some this), jR p0, jI p1])) 3 (jI 0)) 4 (jI 0)) rfl rfl (jup_o rfl (jup_pi (lv := (jlf (jla 0 [jR (some this), jR p0, jI p1]))) (j := 2) (v := jI 0) (z := p1) rfl)) (jup_pi (lv := (jup (jlf (jla 0 [jR (some this), jR p0, jI p1])) 3 (jI 0))) (j := 3) (v := jI 0) (z := 0) rfl) rfl
  cases x37 with
  | inl y39 =>
    replace e : (((p0).bind fun a41 => ((jgi y39 a41 0 3).bind fun v43 => some (v43, y39))) : Option (Int × jH)) = some o := e
    intro lv g1
    refine ey_aload_n (cd_133 rfl) g1 ?_
    obtain ⟨a41, e42, e⟩ := jbind e
    refine ey_rs (s0 := [jR p0]) (s1 := [jR (some a41)]) (by rw [e42]) ?_
    obtain ⟨v43, e44, e⟩ := jbind e
    refine ey_getf_i (cd_133 rfl) mt_133 rfl rfl rfl e44 ?_
    cases e
    exact ey_reti (cd_133 rfl) mt_133 rfl
  | inr y40 =>
    replace e : (jse y40 (fun y45 => some (4, y45)) (fun y46 => jse y46 (fun y47 => ((p0).bind fun a49 => ((jgi y47 a49 0 3).bind fun v51 => some (v51, y47)))) (fun y48 => jse y48 (fun y53 => some (5, y53)) (fun y54 => some (0, y54)))) : Option (Int × jH)) = some o := e
    cases y40 with
    | inl y45 =>
      replace e : (some (4, y45) : Option (Int × jH)) = some o := e
      intro lv 
      refine ey_iconst (cd_133 rfl) ?_
      cases e
      exact ey_reti (cd_133 rfl) mt_133 rfl
    | inr y46 =>
      replace e : (jse y46 (fun y47 => ((p0).bind fun a49 => ((jgi y47 a49 0 3).bind fun v51 => some (v51, y47)))) (fun y48 => jse y48 (fun y53 => some (5, y53)) (fun y54 => some (0, y54))) : Option (Int × jH)) = some o := e
      cases y46 with
      | inl y47 =>
        replace e : (((p0).bind fun a49 => ((jgi y47 a49 0 3).bind fun v51 => some (v51, y47))) : Option (Int × jH)) = some o := e
        intro lv g1
        refine ey_aload_n (cd_133 rfl) g1 ?_
        obtain ⟨a49, e50, e⟩ := jbind e
        refine ey_rs (s0 := [jR p0]) (s1 := [jR (some a49)]) (by rw [e50]) ?_
        obtain ⟨v51, e52, e⟩ := jbind e
        refine ey_getf_i (cd_133 rfl) mt_133 rfl rfl rfl e52 ?_
        cases e
        exact ey_reti (cd_133 rfl) mt_133 rfl
      | inr y48 =>
        replace e : (jse y48 (fun y53 => some (5, y53)) (fun y54 => some (0, y54)) : Option (Int × jH)) = some o := e
        cases y48 with
        | inl y53 =>
          replace e : (some (5, y53) : Option (Int × jH)) = some o := e
          intro lv 
          refine ey_iconst (cd_133 rfl) ?_
          cases e
          exact ey_reti (cd_133 rfl) mt_133 rfl
        | inr y54 =>
          replace e : (some (0, y54) : Option (Int × jH)) = some o := e
          intro lv 
          refine ey_iconst (cd_133 rfl) ?_
          cases e
          exact ey_reti (cd_133 rfl) mt_133 rfl
theorem cd_138 {pc : Nat} {i : Instr × Nat} (h : mm_lk mm_c138 pc = some i) : mm_cd 138 pc = some i := h
theorem mt_138 : mm_MT 138 = (10, 6, none, 3, 0, []) := rfl
set_option maxRecDepth 100000 in
theorem jk_138_b31 {L : Nat} {xs : Nat → Int32} {this : Nat} {x1 : Int} {x2 : Int} {x3 : Int} {x4 : Int} {y0 : Int} {h : jH} {o : ((Int × jH) ⊕ jH)} {r : mm_R} (e : jd_138_b31 this x1 x2 x3 x4 y0 h = some o) (K : jsm (fun s => (∀ lv : jL, lv 0 = some (jR (some this)) → lv 1 = some (jI x1) → lv 2 = some (jI x2) → lv 3 = some (jI x3) → lv 4 = some (jI s.1) → ey (mm_xt L xs) 0 138 3 lv [] s.2 r)) (fun x => (∀ lv : jL, lv 0 = some (jR (some this)) → lv 1 = some (jI x1) → lv 2 = some (jI x2) → lv 3 = some (jI x3) → ey (mm_xt L xs) 0 138 57 lv [] x r)) o) : ∀ lv : jL, lv 0 = some (jR (some this)) → lv 1 = some (jI x1) → lv 2 = some (jI x2) → lv 3 = some (jI x3) → lv 4 = some (jI x4) → ey (mm_xt L xs) 0 138 31 lv [jI y0] h r := by
  intro lv f0 f1 f2 f3 f4
  unfold jd_138_b31 at e
  refine ey_istore (cd_138 rfl) mt_138 rfl ?_
  refine ey_aload_n (cd_138 rfl) f0 ?_
  obtain ⟨r2, e3, e⟩ := jbind e
  refine ey_getf_r (cd_138 rfl) mt_138 rfl rfl rfl e3 ?_
  refine ey_iload (cd_138 rfl) (jup_pi (lv := lv) (j := 4) (v := jI y0) (z := x4) f4) ?_
  refine ey_aload_n (cd_138 rfl) f0 ?_
  obtain ⟨r4, e5, e⟩ := jbind e
  refine ey_getf_r (cd_138 rfl) mt_138 rfl rfl rfl e5 ?_
  refine ey_iload_n (cd_138 rfl) f1 ?_
  refine ey_iload (cd_138 rfl) rfl ?_
  refine ey_iload_n (cd_138 rfl) f2 ?_
  refine ey_imul (cd_138 rfl) ?_
  refine ey_iadd (cd_138 rfl) ?_
  obtain ⟨a6, e7, e⟩ := jbind e
  refine ey_rs (s0 := [jI (x1 + (y0 * x2)), jR r4, jI x4, jR r2]) (s1 := [jI (x1 + (y0 * x2)), jR (some a6), jI x4, jR r2]) (by rw [e7]) ?_
  obtain ⟨v8, e9, e⟩ := jbind e
  refine ey_iald (cd_138 rfl) e9 ?_
  obtain ⟨a10, e11, e⟩ := jbind e
  refine ey_rs (s0 := [jI v8, jI x4, jR r2]) (s1 := [jI v8, jI x4, jR (some a10)]) (by rw [e11]) ?_
  obtain ⟨h12, e13, e⟩ := jbind e
  refine ey_iast (cd_138 rfl) e13 ?_
  refine ey_iinc (cd_138 rfl) mt_138 rfl (jup_pi (lv := lv) (j := 4) (v := jI y0) (z := x4) f4) ?_
  refine ey_goto (cd_138 rfl) rfl ?_
  cases e
  exact K (jup (jup lv 5 (jI y0)) 4 (jI (x4 + 1))) f0 f1 f2 (jup_pi (lv := (jup lv 5 (jI y0))) (j := 3) (v := jI (x4 + 1)) (z := x3) f3) rfl
set_option maxRecDepth 100000 in
theorem jk_138_s3 {L : Nat} {xs : Nat → Int32} {this : Nat} {x1 : Int} {x2 : Int} {x3 : Int} {x4 : Int} {h : jH} {o : ((Int × jH) ⊕ jH)} {r : mm_R} (e : jd_138_s3 this x1 x2 x3 x4 h = some o) (K : jsm (fun s => (∀ lv : jL, lv 0 = some (jR (some this)) → lv 1 = some (jI x1) → lv 2 = some (jI x2) → lv 3 = some (jI x3) → lv 4 = some (jI s.1) → ey (mm_xt L xs) 0 138 3 lv [] s.2 r)) (fun x => (∀ lv : jL, lv 0 = some (jR (some this)) → lv 1 = some (jI x1) → lv 2 = some (jI x2) → lv 3 = some (jI x3) → ey (mm_xt L xs) 0 138 57 lv [] x r)) o) : ∀ lv : jL, lv 0 = some (jR (some this)) → lv 1 = some (jI x1) → lv 2 = some (jI x2) → lv 3 = some (jI x3) → lv 4 = some (jI x4) → ey (mm_xt L xs) 0 138 3 lv [] h r := by
  intro lv f0 f1 f2 f3 f4
  unfold jd_138_s3 at e
  refine ey_iload (cd_138 rfl) f4 ?_
  refine ey_iload_n (cd_138 rfl) f3 ?_
  by_cases q1 : (jw x3) ≤ (jw x4)
  · rw [if_pos q1] at e
    refine ey_cge (cd_138 rfl) rfl rfl rfl q1 ?_
    cases e
    exact K lv f0 f1 f2 f3
  · rw [if_neg q1] at e
    refine ey_nge (cd_138 rfl) rfl rfl rfl q1 ?_
    refine ey_iload (cd_138 rfl) f4 ?_
    refine ey_iconst (cd_138 rfl) ?_
    refine ey_iand (cd_138 rfl) ?_
    have K14 : ∀ lv : jL, lv 0 = some (jR (some this)) → lv 1 = some (jI x1) → lv 2 = some (jI x2) → lv 3 = some (jI x3) → lv 4 = some (jI x4) → ey (mm_xt L xs) 0 138 31 lv [jI (if (jw (jand x4 1)) = 0 then (jdiv x4 2) else ((jdiv x3 2) + (jdiv x4 2)))] h r := by
      intro lv g0 g1 g2 g3 g4
      exact jk_138_b31 e K lv g0 g1 g2 g3 g4
    by_cases q15 : (jw (jand x4 1)) = 0
    · refine ey_yne (cd_138 rfl) rfl rfl (fun w => w q15) ?_
      refine ey_iload (cd_138 rfl) f4 ?_
      refine ey_iconst (cd_138 rfl) ?_
      refine ey_idiv (cd_138 rfl) (by decide) ?_
      refine ey_goto (cd_138 rfl) rfl ?_
      exact ey_rs (s0 := [jI (jdiv x4 2)]) (s1 := [jI (if (jw (jand x4 1)) = 0 then (jdiv x4 2) else ((jdiv x3 2) + (jdiv x4 2)))]) (by rw [show ((if (jw (jand x4 1)) = 0 then (jdiv x4 2) else ((jdiv x3 2) + (jdiv x4 2))) : Int) = (jdiv x4 2) from (if_pos q15)]) (K14 lv f0 f1 f2 f3 f4)
    · refine ey_zne (cd_138 rfl) rfl rfl q15 ?_
      refine ey_iload_n (cd_138 rfl) f3 ?_
      refine ey_iconst (cd_138 rfl) ?_
      refine ey_idiv (cd_138 rfl) (by decide) ?_
      refine ey_iload (cd_138 rfl) f4 ?_
      refine ey_iconst (cd_138 rfl) ?_
      refine ey_idiv (cd_138 rfl) (by decide) ?_
      refine ey_iadd (cd_138 rfl) ?_
      exact ey_rs (s0 := [jI ((jdiv x3 2) + (jdiv x4 2))]) (s1 := [jI (if (jw (jand x4 1)) = 0 then (jdiv x4 2) else ((jdiv x3 2) + (jdiv x4 2)))]) (by rw [show ((if (jw (jand x4 1)) = 0 then (jdiv x4 2) else ((jdiv x3 2) + (jdiv x4 2))) : Int) = ((jdiv x3 2) + (jdiv x4 2)) from (if_neg q15)]) (K14 lv f0 f1 f2 f3 f4)
theorem jk_138_l3 {L : Nat} {xs : Nat → Int32} {this : Nat} {x1 : Int} {x2 : Int} {x3 : Int} {x4 : Int} {h : jH} {x : jH} {r : mm_R} (e : jd_138_l3 this x1 x2 x3 x4 h = some x) (K : (∀ lv : jL, lv 0 = some (jR (some this)) → lv 1 = some (jI x1) → lv 2 = some (jI x2) → lv 3 = some (jI x3) → ey (mm_xt L xs) 0 138 57 lv [] x r)) : ∀ lv : jL, lv 0 = some (jR (some this)) → lv 1 = some (jI x1) → lv 2 = some (jI x2) → lv 3 = some (jI x3) → lv 4 = some (jI x4) → ey (mm_xt L xs) 0 138 3 lv [] h r := by
  unfold jd_138_l3 at e
  exact jlp_ok2 (P := fun s => ∀ lv : jL, lv 0 = some (jR (some this)) → lv 1 = some (jI x1) → lv 2 = some (jI x2) → lv 3 = some (jI x3) → lv 4 = some (jI s.1) → ey (mm_xt L xs) 0 138 3 lv [] s.2 r) (Q := fun x => (∀ lv : jL, lv 0 = some (jR (some this)) → lv 1 = some (jI x1) → lv 2 = some (jI x2) → lv 3 = some (jI x3) → ey (mm_xt L xs) 0 138 57 lv [] x r)) (fun s q hq hk => jk_138_s3 hq hk) jfu _ x e K
set_option maxRecDepth 100000 in
theorem jk_138_b92 {L : Nat} {xs : Nat → Int32} {this : Nat} {x1 : Int} {x2 : Int} {x3 : Int} {x4 : Int} {y0 : Int} {h : jH} {o : ((Int × jH) ⊕ jH)} {r : mm_R} (e : jd_138_b92 this x1 x2 x3 x4 y0 h = some o) (K : jsm (fun s => (∀ lv : jL, lv 0 = some (jR (some this)) → lv 1 = some (jI x1) → lv 2 = some (jI x2) → lv 3 = some (jI x3) → lv 4 = some (jI s.1) → ey (mm_xt L xs) 0 138 60 lv [] s.2 r)) (fun x => (∀ lv : jL, lv 0 = some (jR (some this)) → lv 1 = some (jI x1) → lv 2 = some (jI x2) → lv 3 = some (jI x3) → ey (mm_xt L xs) 0 138 126 lv [] x r)) o) : ∀ lv : jL, lv 0 = some (jR (some this)) → lv 1 = some (jI x1) → lv 2 = some (jI x2) → lv 3 = some (jI x3) → lv 4 = some (jI x4) → ey (mm_xt L xs) 0 138 92 lv [jI y0] h r := by
  intro lv f0 f1 f2 f3 f4
  unfold jd_138_b92 at e
  refine ey_istore (cd_138 rfl) mt_138 rfl ?_
  refine ey_aload_n (cd_138 rfl) f0 ?_
  obtain ⟨r26, e27, e⟩ := jbind e
  refine ey_getf_r (cd_138 rfl) mt_138 rfl rfl rfl e27 ?_
  refine ey_iload (cd_138 rfl) (jup_pi (lv := lv) (j := 4) (v := jI y0) (z := x4) f4) ?_
  refine ey_dup2 (cd_138 rfl) rfl rfl ?_
  obtain ⟨a28, e29, e⟩ := jbind e
  refine ey_rs (s0 := [jI x4, jR r26, jI x4, jR r26]) (s1 := [jI x4, jR (some a28), jI x4, jR r26]) (by rw [e29]) ?_
  obtain ⟨v30, e31, e⟩ := jbind e
  refine ey_iald (cd_138 rfl) e31 ?_
  refine ey_iload (cd_138 rfl) rfl ?_
  refine ey_aload_n (cd_138 rfl) f0 ?_
  obtain ⟨r32, e33, e⟩ := jbind e
  refine ey_getf_r (cd_138 rfl) mt_138 rfl rfl rfl e33 ?_
  refine ey_iload (cd_138 rfl) (jup_pi (lv := lv) (j := 4) (v := jI y0) (z := x4) f4) ?_
  refine ey_iconst (cd_138 rfl) ?_
  refine ey_iadd (cd_138 rfl) ?_
  obtain ⟨a34, e35, e⟩ := jbind e
  refine ey_rs (s0 := [jI (x4 + 1), jR r32, jI y0, jI v30, jI x4, jR r26]) (s1 := [jI (x4 + 1), jR (some a34), jI y0, jI v30, jI x4, jR r26]) (by rw [e35]) ?_
  obtain ⟨v36, e37, e⟩ := jbind e
  refine ey_iald (cd_138 rfl) e37 ?_
  refine ey_iadd (cd_138 rfl) ?_
  refine ey_iconst (cd_138 rfl) ?_
  refine ey_iadd (cd_138 rfl) ?_
  refine ey_iconst (cd_138 rfl) ?_
  refine ey_ishr (cd_138 rfl) ?_
  refine ey_isub (cd_138 rfl) ?_
  obtain ⟨a38, e39, e⟩ := jbind e
  refine ey_rs (s0 := [jI (v30 - (jshr ((y0 + v36) + 2) 2)), jI x4, jR r26]) (s1 := [jI (v30 - (jshr ((y0 + v36) + 2) 2)), jI x4, jR (some a38)]) (by rw [e39]) ?_
  obtain ⟨h40, e41, e⟩ := jbind e
  refine ey_iast (cd_138 rfl) e41 ?_
  refine ey_iinc (cd_138 rfl) mt_138 rfl (jup_pi (lv := lv) (j := 4) (v := jI y0) (z := x4) f4) ?_
  refine ey_goto (cd_138 rfl) rfl ?_
  cases e
  exact K (jup (jup lv 5 (jI y0)) 4 (jI (x4 + 2))) f0 f1 f2 (jup_pi (lv := (jup lv 5 (jI y0))) (j := 3) (v := jI (x4 + 2)) (z := x3) f3) rfl
set_option maxRecDepth 100000 in
theorem jk_138_s60 {L : Nat} {xs : Nat → Int32} {this : Nat} {x1 : Int} {x2 : Int} {x3 : Int} {x4 : Int} {h : jH} {o : ((Int × jH) ⊕ jH)} {r : mm_R} (e : jd_138_s60 this x1 x2 x3 x4 h = some o) (K : jsm (fun s => (∀ lv : jL, lv 0 = some (jR (some this)) → lv 1 = some (jI x1) → lv 2 = some (jI x2) → lv 3 = some (jI x3) → lv 4 = some (jI s.1) → ey (mm_xt L xs) 0 138 60 lv [] s.2 r)) (fun x => (∀ lv : jL, lv 0 = some (jR (some this)) → lv 1 = some (jI x1) → lv 2 = some (jI x2) → lv 3 = some (jI x3) → ey (mm_xt L xs) 0 138 126 lv [] x r)) o) : ∀ lv : jL, lv 0 = some (jR (some this)) → lv 1 = some (jI x1) → lv 2 = some (jI x2) → lv 3 = some (jI x3) → lv 4 = some (jI x4) → ey (mm_xt L xs) 0 138 60 lv [] h r := by
  intro lv f0 f1 f2 f3 f4
  unfold jd_138_s60 at e
  refine ey_iload (cd_138 rfl) f4 ?_
  refine ey_iload_n (cd_138 rfl) f3 ?_
  by_cases q18 : (jw x3) ≤ (jw x4)
  · rw [if_pos q18] at e
    refine ey_cge (cd_138 rfl) rfl rfl rfl q18 ?_
    cases e
    exact K lv f0 f1 f2 f3
  · rw [if_neg q18] at e
    refine ey_nge (cd_138 rfl) rfl rfl rfl q18 ?_
    refine ey_iload (cd_138 rfl) f4 ?_
    by_cases q19 : (jw x4) ≤ 0
    · rw [if_pos q19] at e
      refine ey_zle (cd_138 rfl) rfl rfl q19 ?_
      refine ey_aload_n (cd_138 rfl) f0 ?_
      obtain ⟨r20, e21, e⟩ := jbind e
      refine ey_getf_r (cd_138 rfl) mt_138 rfl rfl rfl e21 ?_
      refine ey_iload (cd_138 rfl) f4 ?_
      refine ey_iconst (cd_138 rfl) ?_
      refine ey_iadd (cd_138 rfl) ?_
      obtain ⟨a22, e23, e⟩ := jbind e
      refine ey_rs (s0 := [jI (x4 + 1), jR r20]) (s1 := [jI (x4 + 1), jR (some a22)]) (by rw [e23]) ?_
      obtain ⟨v24, e25, e⟩ := jbind e
      refine ey_iald (cd_138 rfl) e25 ?_
      exact jk_138_b92 e K lv f0 f1 f2 f3 f4
    · rw [if_neg q19] at e
      refine ey_yle (cd_138 rfl) rfl rfl q19 ?_
      refine ey_aload_n (cd_138 rfl) f0 ?_
      obtain ⟨r42, e43, e⟩ := jbind e
      refine ey_getf_r (cd_138 rfl) mt_138 rfl rfl rfl e43 ?_
      refine ey_iload (cd_138 rfl) f4 ?_
      refine ey_iconst (cd_138 rfl) ?_
      refine ey_isub (cd_138 rfl) ?_
      obtain ⟨a44, e45, e⟩ := jbind e
      refine ey_rs (s0 := [jI (x4 - 1), jR r42]) (s1 := [jI (x4 - 1), jR (some a44)]) (by rw [e45]) ?_
      obtain ⟨v46, e47, e⟩ := jbind e
      refine ey_iald (cd_138 rfl) e47 ?_
      refine ey_goto (cd_138 rfl) rfl ?_
      exact jk_138_b92 e K lv f0 f1 f2 f3 f4
theorem jk_138_l60 {L : Nat} {xs : Nat → Int32} {this : Nat} {x1 : Int} {x2 : Int} {x3 : Int} {x4 : Int} {h : jH} {x : jH} {r : mm_R} (e : jd_138_l60 this x1 x2 x3 x4 h = some x) (K : (∀ lv : jL, lv 0 = some (jR (some this)) → lv 1 = some (jI x1) → lv 2 = some (jI x2) → lv 3 = some (jI x3) → ey (mm_xt L xs) 0 138 126 lv [] x r)) : ∀ lv : jL, lv 0 = some (jR (some this)) → lv 1 = some (jI x1) → lv 2 = some (jI x2) → lv 3 = some (jI x3) → lv 4 = some (jI x4) → ey (mm_xt L xs) 0 138 60 lv [] h r := by
  unfold jd_138_l60 at e
  exact jlp_ok2 (P := fun s => ∀ lv : jL, lv 0 = some (jR (some this)) → lv 1 = some (jI x1) → lv 2 = some (jI x2) → lv 3 = some (jI x3) → lv 4 = some (jI s.1) → ey (mm_xt L xs) 0 138 60 lv [] s.2 r) (Q := fun x => (∀ lv : jL, lv 0 = some (jR (some this)) → lv 1 = some (jI x1) → lv 2 = some (jI x2) → lv 3 = some (jI x3) → ey (mm_xt L xs) 0 138 126 lv [] x r)) (fun s q hq hk => jk_138_s60 hq hk) jfu _ x e K
set_option maxRecDepth 100000 in
theorem jk_138_b164 {L : Nat} {xs : Nat → Int32} {this : Nat} {x1 : Int} {x2 : Int} {x3 : Int} {x4 : Int} {y0 : Int} {h : jH} {o : ((Int × jH) ⊕ jH)} {r : mm_R} (e : jd_138_b164 this x1 x2 x3 x4 y0 h = some o) (K : jsm (fun s => (∀ lv : jL, lv 0 = some (jR (some this)) → lv 1 = some (jI x1) → lv 2 = some (jI x2) → lv 3 = some (jI x3) → lv 4 = some (jI s.1) → ey (mm_xt L xs) 0 138 129 lv [] s.2 r)) (fun x => (∀ lv : jL, lv 0 = some (jR (some this)) → lv 1 = some (jI x1) → lv 2 = some (jI x2) → lv 3 = some (jI x3) → ey (mm_xt L xs) 0 138 196 lv [] x r)) o) : ∀ lv : jL, lv 0 = some (jR (some this)) → lv 1 = some (jI x1) → lv 2 = some (jI x2) → lv 3 = some (jI x3) → lv 4 = some (jI x4) → ey (mm_xt L xs) 0 138 164 lv [jI y0] h r := by
  intro lv f0 f1 f2 f3 f4
  unfold jd_138_b164 at e
  refine ey_istore (cd_138 rfl) mt_138 rfl ?_
  refine ey_aload_n (cd_138 rfl) f0 ?_
  obtain ⟨r58, e59, e⟩ := jbind e
  refine ey_getf_r (cd_138 rfl) mt_138 rfl rfl rfl e59 ?_
  refine ey_iload (cd_138 rfl) (jup_pi (lv := lv) (j := 4) (v := jI y0) (z := x4) f4) ?_
  refine ey_dup2 (cd_138 rfl) rfl rfl ?_
  obtain ⟨a60, e61, e⟩ := jbind e
  refine ey_rs (s0 := [jI x4, jR r58, jI x4, jR r58]) (s1 := [jI x4, jR (some a60), jI x4, jR r58]) (by rw [e61]) ?_
  obtain ⟨v62, e63, e⟩ := jbind e
  refine ey_iald (cd_138 rfl) e63 ?_
  refine ey_aload_n (cd_138 rfl) f0 ?_
  obtain ⟨r64, e65, e⟩ := jbind e
  refine ey_getf_r (cd_138 rfl) mt_138 rfl rfl rfl e65 ?_
  refine ey_iload (cd_138 rfl) (jup_pi (lv := lv) (j := 4) (v := jI y0) (z := x4) f4) ?_
  refine ey_iconst (cd_138 rfl) ?_
  refine ey_isub (cd_138 rfl) ?_
  obtain ⟨a66, e67, e⟩ := jbind e
  refine ey_rs (s0 := [jI (x4 - 1), jR r64, jI v62, jI x4, jR r58]) (s1 := [jI (x4 - 1), jR (some a66), jI v62, jI x4, jR r58]) (by rw [e67]) ?_
  obtain ⟨v68, e69, e⟩ := jbind e
  refine ey_iald (cd_138 rfl) e69 ?_
  refine ey_iload (cd_138 rfl) rfl ?_
  refine ey_iadd (cd_138 rfl) ?_
  refine ey_iconst (cd_138 rfl) ?_
  refine ey_ishr (cd_138 rfl) ?_
  refine ey_iadd (cd_138 rfl) ?_
  obtain ⟨a70, e71, e⟩ := jbind e
  refine ey_rs (s0 := [jI (v62 + (jshr (v68 + y0) 1)), jI x4, jR r58]) (s1 := [jI (v62 + (jshr (v68 + y0) 1)), jI x4, jR (some a70)]) (by rw [e71]) ?_
  obtain ⟨h72, e73, e⟩ := jbind e
  refine ey_iast (cd_138 rfl) e73 ?_
  refine ey_iinc (cd_138 rfl) mt_138 rfl (jup_pi (lv := lv) (j := 4) (v := jI y0) (z := x4) f4) ?_
  refine ey_goto (cd_138 rfl) rfl ?_
  cases e
  exact K (jup (jup lv 5 (jI y0)) 4 (jI (x4 + 2))) f0 f1 f2 (jup_pi (lv := (jup lv 5 (jI y0))) (j := 3) (v := jI (x4 + 2)) (z := x3) f3) rfl
set_option maxRecDepth 100000 in
theorem jk_138_s129 {L : Nat} {xs : Nat → Int32} {this : Nat} {x1 : Int} {x2 : Int} {x3 : Int} {x4 : Int} {h : jH} {o : ((Int × jH) ⊕ jH)} {r : mm_R} (e : jd_138_s129 this x1 x2 x3 x4 h = some o) (K : jsm (fun s => (∀ lv : jL, lv 0 = some (jR (some this)) → lv 1 = some (jI x1) → lv 2 = some (jI x2) → lv 3 = some (jI x3) → lv 4 = some (jI s.1) → ey (mm_xt L xs) 0 138 129 lv [] s.2 r)) (fun x => (∀ lv : jL, lv 0 = some (jR (some this)) → lv 1 = some (jI x1) → lv 2 = some (jI x2) → lv 3 = some (jI x3) → ey (mm_xt L xs) 0 138 196 lv [] x r)) o) : ∀ lv : jL, lv 0 = some (jR (some this)) → lv 1 = some (jI x1) → lv 2 = some (jI x2) → lv 3 = some (jI x3) → lv 4 = some (jI x4) → ey (mm_xt L xs) 0 138 129 lv [] h r := by
  intro lv f0 f1 f2 f3 f4
  unfold jd_138_s129 at e
  refine ey_iload (cd_138 rfl) f4 ?_
  refine ey_iload_n (cd_138 rfl) f3 ?_
  by_cases q50 : (jw x3) ≤ (jw x4)
  · rw [if_pos q50] at e
    refine ey_cge (cd_138 rfl) rfl rfl rfl q50 ?_
    cases e
    exact K lv f0 f1 f2 f3
  · rw [if_neg q50] at e
    refine ey_nge (cd_138 rfl) rfl rfl rfl q50 ?_
    refine ey_iload (cd_138 rfl) f4 ?_
    refine ey_iconst (cd_138 rfl) ?_
    refine ey_iadd (cd_138 rfl) ?_
    refine ey_iload_n (cd_138 rfl) f3 ?_
    by_cases q51 : (jw x3) ≤ (jw (x4 + 1))
    · rw [if_pos q51] at e
      refine ey_cge (cd_138 rfl) rfl rfl rfl q51 ?_
      refine ey_aload_n (cd_138 rfl) f0 ?_
      obtain ⟨r52, e53, e⟩ := jbind e
      refine ey_getf_r (cd_138 rfl) mt_138 rfl rfl rfl e53 ?_
      refine ey_iload (cd_138 rfl) f4 ?_
      refine ey_iconst (cd_138 rfl) ?_
      refine ey_isub (cd_138 rfl) ?_
      obtain ⟨a54, e55, e⟩ := jbind e
      refine ey_rs (s0 := [jI (x4 - 1), jR r52]) (s1 := [jI (x4 - 1), jR (some a54)]) (by rw [e55]) ?_
      obtain ⟨v56, e57, e⟩ := jbind e
      refine ey_iald (cd_138 rfl) e57 ?_
      exact jk_138_b164 e K lv f0 f1 f2 f3 f4
    · rw [if_neg q51] at e
      refine ey_nge (cd_138 rfl) rfl rfl rfl q51 ?_
      refine ey_aload_n (cd_138 rfl) f0 ?_
      obtain ⟨r74, e75, e⟩ := jbind e
      refine ey_getf_r (cd_138 rfl) mt_138 rfl rfl rfl e75 ?_
      refine ey_iload (cd_138 rfl) f4 ?_
      refine ey_iconst (cd_138 rfl) ?_
      refine ey_iadd (cd_138 rfl) ?_
      obtain ⟨a76, e77, e⟩ := jbind e
      refine ey_rs (s0 := [jI (x4 + 1), jR r74]) (s1 := [jI (x4 + 1), jR (some a76)]) (by rw [e77]) ?_
      obtain ⟨v78, e79, e⟩ := jbind e
      refine ey_iald (cd_138 rfl) e79 ?_
      refine ey_goto (cd_138 rfl) rfl ?_
      exact jk_138_b164 e K lv f0 f1 f2 f3 f4
theorem jk_138_l129 {L : Nat} {xs : Nat → Int32} {this : Nat} {x1 : Int} {x2 : Int} {x3 : Int} {x4 : Int} {h : jH} {x : jH} {r : mm_R} (e : jd_138_l129 this x1 x2 x3 x4 h = some x) (K : (∀ lv : jL, lv 0 = some (jR (some this)) → lv 1 = some (jI x1) → lv 2 = some (jI x2) → lv 3 = some (jI x3) → ey (mm_xt L xs) 0 138 196 lv [] x r)) : ∀ lv : jL, lv 0 = some (jR (some this)) → lv 1 = some (jI x1) → lv 2 = some (jI x2) → lv 3 = some (jI x3) → lv 4 = some (jI x4) → ey (mm_xt L xs) 0 138 129 lv [] h r := by
  unfold jd_138_l129 at e
  exact jlp_ok2 (P := fun s => ∀ lv : jL, lv 0 = some (jR (some this)) → lv 1 = some (jI x1) → lv 2 = some (jI x2) → lv 3 = some (jI x3) → lv 4 = some (jI s.1) → ey (mm_xt L xs) 0 138 129 lv [] s.2 r) (Q := fun x => (∀ lv : jL, lv 0 = some (jR (some this)) → lv 1 = some (jI x1) → lv 2 = some (jI x2) → lv 3 = some (jI x3) → ey (mm_xt L xs) 0 138 196 lv [] x r)) (fun s q hq hk => jk_138_s129 hq hk) jfu _ x e K
set_option maxRecDepth 100000 in
theorem jk_138_s199 {L : Nat} {xs : Nat → Int32} {this : Nat} {x1 : Int} {x2 : Int} {x3 : Int} {x4 : Int} {h : jH} {o : ((Int × jH) ⊕ jH)} {r : mm_R} (e : jd_138_s199 this x1 x2 x3 x4 h = some o) (K : jsm (fun s => (∀ lv : jL, lv 0 = some (jR (some this)) → lv 1 = some (jI x1) → lv 2 = some (jI x2) → lv 3 = some (jI x3) → lv 4 = some (jI s.1) → ey (mm_xt L xs) 0 138 199 lv [] s.2 r)) (fun x => (∀ lv : jL, ey (mm_xt L xs) 0 138 229 lv [] x r)) o) : ∀ lv : jL, lv 0 = some (jR (some this)) → lv 1 = some (jI x1) → lv 2 = some (jI x2) → lv 3 = some (jI x3) → lv 4 = some (jI x4) → ey (mm_xt L xs) 0 138 199 lv [] h r := by
  intro lv f0 f1 f2 f3 f4
  unfold jd_138_s199 at e
  refine ey_iload (cd_138 rfl) f4 ?_
  refine ey_iload_n (cd_138 rfl) f3 ?_
  by_cases q82 : (jw x3) ≤ (jw x4)
  · rw [if_pos q82] at e
    refine ey_cge (cd_138 rfl) rfl rfl rfl q82 ?_
    cases e
    exact K lv 
  · rw [if_neg q82] at e
    refine ey_nge (cd_138 rfl) rfl rfl rfl q82 ?_
    refine ey_aload_n (cd_138 rfl) f0 ?_
    obtain ⟨r83, e84, e⟩ := jbind e
    refine ey_getf_r (cd_138 rfl) mt_138 rfl rfl rfl e84 ?_
    refine ey_iload_n (cd_138 rfl) f1 ?_
    refine ey_iload (cd_138 rfl) f4 ?_
    refine ey_iload_n (cd_138 rfl) f2 ?_
    refine ey_imul (cd_138 rfl) ?_
    refine ey_iadd (cd_138 rfl) ?_
    refine ey_aload_n (cd_138 rfl) f0 ?_
    obtain ⟨r85, e86, e⟩ := jbind e
    refine ey_getf_r (cd_138 rfl) mt_138 rfl rfl rfl e86 ?_
    refine ey_iload (cd_138 rfl) f4 ?_
    obtain ⟨a87, e88, e⟩ := jbind e
    refine ey_rs (s0 := [jI x4, jR r85, jI (x1 + (x4 * x2)), jR r83]) (s1 := [jI x4, jR (some a87), jI (x1 + (x4 * x2)), jR r83]) (by rw [e88]) ?_
    obtain ⟨v89, e90, e⟩ := jbind e
    refine ey_iald (cd_138 rfl) e90 ?_
    obtain ⟨a91, e92, e⟩ := jbind e
    refine ey_rs (s0 := [jI v89, jI (x1 + (x4 * x2)), jR r83]) (s1 := [jI v89, jI (x1 + (x4 * x2)), jR (some a91)]) (by rw [e92]) ?_
    obtain ⟨h93, e94, e⟩ := jbind e
    refine ey_iast (cd_138 rfl) e94 ?_
    refine ey_iinc (cd_138 rfl) mt_138 rfl f4 ?_
    refine ey_goto (cd_138 rfl) rfl ?_
    cases e
    exact K (jup lv 4 (jI (x4 + 1))) f0 f1 f2 (jup_pi (lv := lv) (j := 3) (v := jI (x4 + 1)) (z := x3) f3) rfl
theorem jk_138_l199 {L : Nat} {xs : Nat → Int32} {this : Nat} {x1 : Int} {x2 : Int} {x3 : Int} {x4 : Int} {h : jH} {x : jH} {r : mm_R} (e : jd_138_l199 this x1 x2 x3 x4 h = some x) (K : (∀ lv : jL, ey (mm_xt L xs) 0 138 229 lv [] x r)) : ∀ lv : jL, lv 0 = some (jR (some this)) → lv 1 = some (jI x1) → lv 2 = some (jI x2) → lv 3 = some (jI x3) → lv 4 = some (jI x4) → ey (mm_xt L xs) 0 138 199 lv [] h r := by
  unfold jd_138_l199 at e
  exact jlp_ok2 (P := fun s => ∀ lv : jL, lv 0 = some (jR (some this)) → lv 1 = some (jI x1) → lv 2 = some (jI x2) → lv 3 = some (jI x3) → lv 4 = some (jI s.1) → ey (mm_xt L xs) 0 138 199 lv [] s.2 r) (Q := fun x => (∀ lv : jL, ey (mm_xt L xs) 0 138 229 lv [] x r)) (fun s q hq hk => jk_138_s199 hq hk) jfu _ x e K
set_option maxRecDepth 100000 in
theorem ok_138 {L : Nat} {xs : Nat → Int32} {this : Nat} {p0 : Int} {p1 : Int} {p2 : Int} {h : jH} {o : jH} (e : jd_138 this p0 p1 p2 h = some o) : mm_Runs (mm_xt L xs) 1 138 ([jR (some this), jI p0, jI p1, jI p2].map jcv) (jaH h) (.inl (none, jaH o)) := by
  refine ey_run0 _ mt_138 (jsl_s rfl) ?_
  unfold jd_138 at e
  refine ey_iconst (cd_138 rfl) ?_
  refine ey_istore (cd_138 rfl) mt_138 rfl ?_
  obtain ⟨x16, e17, e⟩ := jbind e
  refine jk_138_l3 e17 ?_ (jup (jlf (jla 0 [jR (some this), jI p0, jI p1, jI p2])) 4 (jI 0)) rfl rfl rfl (jup_pi (lv := (jlf (jla 0 [jR (some this), jI p0, jI p1, jI p2]))) (j := 3) (v := jI 0) (z := p2) rfl) rfl
  intro lv g0 g1 g2 g3
  refine ey_iconst (cd_138 rfl) ?_
  refine ey_istore (cd_138 rfl) mt_138 rfl ?_
  obtain ⟨x48, e49, e⟩ := jbind e
  refine jk_138_l60 e49 ?_ (jup lv 4 (jI 0)) g0 g1 g2 (jup_pi (lv := lv) (j := 3) (v := jI 0) (z := p2) g3) rfl
  intro lv g0 g1 g2 g3
  refine ey_iconst (cd_138 rfl) ?_
  refine ey_istore (cd_138 rfl) mt_138 rfl ?_
  obtain ⟨x80, e81, e⟩ := jbind e
  refine jk_138_l129 e81 ?_ (jup lv 4 (jI 1)) g0 g1 g2 (jup_pi (lv := lv) (j := 3) (v := jI 1) (z := p2) g3) rfl
  intro lv g0 g1 g2 g3
  refine ey_iconst (cd_138 rfl) ?_
  refine ey_istore (cd_138 rfl) mt_138 rfl ?_
  obtain ⟨x95, e96, e⟩ := jbind e
  refine jk_138_l199 e96 ?_ (jup lv 4 (jI 0)) g0 g1 g2 (jup_pi (lv := lv) (j := 3) (v := jI 0) (z := p2) g3) rfl
  intro lv 
  cases e
  exact ey_retv (cd_138 rfl) mt_138 rfl
theorem cd_136 {pc : Nat} {i : Instr × Nat} (h : mm_lk mm_c136 pc = some i) : mm_cd 136 pc = some i := h
theorem mt_136 : mm_MT 136 = (10, 5, none, 3, 0, []) := rfl
set_option maxRecDepth 100000 in
theorem jk_136_s3 {L : Nat} {xs : Nat → Int32} {this : Nat} {x1 : Int} {x2 : Int} {x3 : Int} {x4 : Int} {h : jH} {o : ((Int × jH) ⊕ jH)} {r : mm_R} (e : jd_136_s3 this x1 x2 x3 x4 h = some o) (K : jsm (fun s => (∀ lv : jL, lv 0 = some (jR (some this)) → lv 1 = some (jI x1) → lv 2 = some (jI x2) → lv 3 = some (jI x3) → lv 4 = some (jI s.1) → ey (mm_xt L xs) 1 136 3 lv [] s.2 r)) (fun x => (∀ lv : jL, lv 0 = some (jR (some this)) → lv 1 = some (jI x1) → lv 2 = some (jI x2) → lv 3 = some (jI x3) → ey (mm_xt L xs) 1 136 23 lv [] x r)) o) : ∀ lv : jL, lv 0 = some (jR (some this)) → lv 1 = some (jI x1) → lv 2 = some (jI x2) → lv 3 = some (jI x3) → lv 4 = some (jI x4) → ey (mm_xt L xs) 1 136 3 lv [] h r := by
  intro lv f0 f1 f2 f3 f4
  unfold jd_136_s3 at e
  refine ey_iload (cd_136 rfl) f4 ?_
  refine ey_iload_n (cd_136 rfl) f2 ?_
  by_cases q1 : (jw x2) ≤ (jw x4)
  · rw [if_pos q1] at e
    refine ey_cge (cd_136 rfl) rfl rfl rfl q1 ?_
    cases e
    exact K lv f0 f1 f2 f3
  · rw [if_neg q1] at e
    refine ey_nge (cd_136 rfl) rfl rfl rfl q1 ?_
    refine ey_aload_n (cd_136 rfl) f0 ?_
    refine ey_iload (cd_136 rfl) f4 ?_
    refine ey_iload_n (cd_136 rfl) f1 ?_
    refine ey_iload_n (cd_136 rfl) f3 ?_
    obtain ⟨u2, e3, e⟩ := jbind e
    obtain ⟨h4, e5, e⟩ := jbind e
    refine ey_cv (s0 := [jI x3, jI x1, jI x4, jR (some this)]) (s1 := []) (st' := []) (cd_136 rfl) mt_136 mt_138 rfl rfl rfl (jck_s e3) rfl (jsml_s rfl) rfl (ok_138 e5) ?_
    refine ey_iinc (cd_136 rfl) mt_136 rfl f4 ?_
    refine ey_goto (cd_136 rfl) rfl ?_
    cases e
    exact K (jup lv 4 (jI (x4 + 1))) f0 f1 f2 (jup_pi (lv := lv) (j := 3) (v := jI (x4 + 1)) (z := x3) f3) rfl
theorem jk_136_l3 {L : Nat} {xs : Nat → Int32} {this : Nat} {x1 : Int} {x2 : Int} {x3 : Int} {x4 : Int} {h : jH} {x : jH} {r : mm_R} (e : jd_136_l3 this x1 x2 x3 x4 h = some x) (K : (∀ lv : jL, lv 0 = some (jR (some this)) → lv 1 = some (jI x1) → lv 2 = some (jI x2) → lv 3 = some (jI x3) → ey (mm_xt L xs) 1 136 23 lv [] x r)) : ∀ lv : jL, lv 0 = some (jR (some this)) → lv 1 = some (jI x1) → lv 2 = some (jI x2) → lv 3 = some (jI x3) → lv 4 = some (jI x4) → ey (mm_xt L xs) 1 136 3 lv [] h r := by
  unfold jd_136_l3 at e
  exact jlp_ok2 (P := fun s => ∀ lv : jL, lv 0 = some (jR (some this)) → lv 1 = some (jI x1) → lv 2 = some (jI x2) → lv 3 = some (jI x3) → lv 4 = some (jI s.1) → ey (mm_xt L xs) 1 136 3 lv [] s.2 r) (Q := fun x => (∀ lv : jL, lv 0 = some (jR (some this)) → lv 1 = some (jI x1) → lv 2 = some (jI x2) → lv 3 = some (jI x3) → ey (mm_xt L xs) 1 136 23 lv [] x r)) (fun s q hq hk => jk_136_s3 hq hk) jfu _ x e K
set_option maxRecDepth 100000 in
theorem jk_136_s26 {L : Nat} {xs : Nat → Int32} {this : Nat} {x1 : Int} {x2 : Int} {x3 : Int} {x4 : Int} {h : jH} {o : ((Int × jH) ⊕ jH)} {r : mm_R} (e : jd_136_s26 this x1 x2 x3 x4 h = some o) (K : jsm (fun s => (∀ lv : jL, lv 0 = some (jR (some this)) → lv 1 = some (jI x1) → lv 2 = some (jI x2) → lv 3 = some (jI x3) → lv 4 = some (jI s.1) → ey (mm_xt L xs) 1 136 26 lv [] s.2 r)) (fun x => (∀ lv : jL, ey (mm_xt L xs) 1 136 48 lv [] x r)) o) : ∀ lv : jL, lv 0 = some (jR (some this)) → lv 1 = some (jI x1) → lv 2 = some (jI x2) → lv 3 = some (jI x3) → lv 4 = some (jI x4) → ey (mm_xt L xs) 1 136 26 lv [] h r := by
  intro lv f0 f1 f2 f3 f4
  unfold jd_136_s26 at e
  refine ey_iload (cd_136 rfl) f4 ?_
  refine ey_iload_n (cd_136 rfl) f3 ?_
  by_cases q8 : (jw x3) ≤ (jw x4)
  · rw [if_pos q8] at e
    refine ey_cge (cd_136 rfl) rfl rfl rfl q8 ?_
    cases e
    exact K lv 
  · rw [if_neg q8] at e
    refine ey_nge (cd_136 rfl) rfl rfl rfl q8 ?_
    refine ey_aload_n (cd_136 rfl) f0 ?_
    refine ey_iload (cd_136 rfl) f4 ?_
    refine ey_iload_n (cd_136 rfl) f1 ?_
    refine ey_imul (cd_136 rfl) ?_
    refine ey_iconst (cd_136 rfl) ?_
    refine ey_iload_n (cd_136 rfl) f2 ?_
    obtain ⟨u9, e10, e⟩ := jbind e
    obtain ⟨h11, e12, e⟩ := jbind e
    refine ey_cv (s0 := [jI x2, jI 1, jI (x4 * x1), jR (some this)]) (s1 := []) (st' := []) (cd_136 rfl) mt_136 mt_138 rfl rfl rfl (jck_s e10) rfl (jsml_s rfl) rfl (ok_138 e12) ?_
    refine ey_iinc (cd_136 rfl) mt_136 rfl f4 ?_
    refine ey_goto (cd_136 rfl) rfl ?_
    cases e
    exact K (jup lv 4 (jI (x4 + 1))) f0 f1 f2 (jup_pi (lv := lv) (j := 3) (v := jI (x4 + 1)) (z := x3) f3) rfl
theorem jk_136_l26 {L : Nat} {xs : Nat → Int32} {this : Nat} {x1 : Int} {x2 : Int} {x3 : Int} {x4 : Int} {h : jH} {x : jH} {r : mm_R} (e : jd_136_l26 this x1 x2 x3 x4 h = some x) (K : (∀ lv : jL, ey (mm_xt L xs) 1 136 48 lv [] x r)) : ∀ lv : jL, lv 0 = some (jR (some this)) → lv 1 = some (jI x1) → lv 2 = some (jI x2) → lv 3 = some (jI x3) → lv 4 = some (jI x4) → ey (mm_xt L xs) 1 136 26 lv [] h r := by
  unfold jd_136_l26 at e
  exact jlp_ok2 (P := fun s => ∀ lv : jL, lv 0 = some (jR (some this)) → lv 1 = some (jI x1) → lv 2 = some (jI x2) → lv 3 = some (jI x3) → lv 4 = some (jI s.1) → ey (mm_xt L xs) 1 136 26 lv [] s.2 r) (Q := fun x => (∀ lv : jL, ey (mm_xt L xs) 1 136 48 lv [] x r)) (fun s q hq hk => jk_136_s26 hq hk) jfu _ x e K
set_option maxRecDepth 100000 in
theorem ok_136 {L : Nat} {xs : Nat → Int32} {this : Nat} {p0 : Int} {p1 : Int} {p2 : Int} {h : jH} {o : jH} (e : jd_136 this p0 p1 p2 h = some o) : mm_Runs (mm_xt L xs) 2 136 ([jR (some this), jI p0, jI p1, jI p2].map jcv) (jaH h) (.inl (none, jaH o)) := by
  refine ey_run0 _ mt_136 (jsl_s rfl) ?_
  unfold jd_136 at e
  refine ey_iconst (cd_136 rfl) ?_
  refine ey_istore (cd_136 rfl) mt_136 rfl ?_
  obtain ⟨x6, e7, e⟩ := jbind e
  refine jk_136_l3 e7 ?_ (jup (jlf (jla 0 [jR (some this), jI p0, jI p1, jI p2])) 4 (jI 0)) rfl rfl rfl (jup_pi (lv := (jlf (jla 0 [jR (some this), jI p0, jI p1, jI p2]))) (j := 3) (v := jI 0) (z := p2) rfl) rfl
  intro lv g0 g1 g2 g3
  refine ey_iconst (cd_136 rfl) ?_
  refine ey_istore (cd_136 rfl) mt_136 rfl ?_
  obtain ⟨x13, e14, e⟩ := jbind e
  refine jk_136_l26 e14 ?_ (jup lv 4 (jI 0)) g0 g1 g2 (jup_pi (lv := lv) (j := 3) (v := jI 0) (z := p2) g3) rfl
  intro lv 
  cases e
  exact ey_retv (cd_136 rfl) mt_136 rfl
theorem cd_132 {pc : Nat} {i : Instr × Nat} (h : mm_lk mm_c132 pc = some i) : mm_cd 132 pc = some i := h
theorem mt_132 : mm_MT 132 = (10, 9, some .int, 3, 0, []) := rfl
set_option maxRecDepth 100000 in
theorem jk_132_s68 {L : Nat} {xs : Nat → Int32} {this : Nat} {x2 : Option Nat} {x4 : Int} {x5 : Int} {x7 : Int} {x8 : Int} {h : jH} {o : ((Int × jH) ⊕ jH)} {r : mm_R} (e : jd_132_s68 this x2 x4 x5 x7 x8 h = some o) (K : jsm (fun s => (∀ lv : jL, lv 0 = some (jR (some this)) → lv 2 = some (jR x2) → lv 4 = some (jI x4) → lv 5 = some (jI x5) → lv 7 = some (jI x7) → lv 8 = some (jI s.1) → ey (mm_xt L xs) 3 132 68 lv [] s.2 r)) (fun x => (∀ lv : jL, ey (mm_xt L xs) 3 132 104 lv [] x r)) o) : ∀ lv : jL, lv 0 = some (jR (some this)) → lv 2 = some (jR x2) → lv 4 = some (jI x4) → lv 5 = some (jI x5) → lv 7 = some (jI x7) → lv 8 = some (jI x8) → ey (mm_xt L xs) 3 132 68 lv [] h r := by
  intro lv f0 f2 f4 f5 f7 f8
  unfold jd_132_s68 at e
  refine ey_iload (cd_132 rfl) f8 ?_
  refine ey_iload (cd_132 rfl) f4 ?_
  refine ey_iload (cd_132 rfl) f5 ?_
  refine ey_imul (cd_132 rfl) ?_
  by_cases q32 : (jw (x4 * x5)) ≤ (jw x8)
  · rw [if_pos q32] at e
    refine ey_cge (cd_132 rfl) rfl rfl rfl q32 ?_
    cases e
    exact K lv 
  · rw [if_neg q32] at e
    refine ey_nge (cd_132 rfl) rfl rfl rfl q32 ?_
    refine ey_aload_n (cd_132 rfl) f2 ?_
    obtain ⟨a33, e34, e⟩ := jbind e
    refine ey_rs (s0 := [jR x2]) (s1 := [jR (some a33)]) (by rw [e34]) ?_
    obtain ⟨r35, e36, e⟩ := jbind e
    refine ey_getf_r (cd_132 rfl) mt_132 rfl rfl rfl e36 ?_
    refine ey_iload (cd_132 rfl) f7 ?_
    refine ey_iload (cd_132 rfl) f8 ?_
    refine ey_iadd (cd_132 rfl) ?_
    refine ey_aload_n (cd_132 rfl) f0 ?_
    obtain ⟨r37, e38, e⟩ := jbind e
    refine ey_getf_r (cd_132 rfl) mt_132 rfl rfl rfl e38 ?_
    refine ey_iload (cd_132 rfl) f8 ?_
    obtain ⟨a39, e40, e⟩ := jbind e
    refine ey_rs (s0 := [jI x8, jR r37, jI (x7 + x8), jR r35]) (s1 := [jI x8, jR (some a39), jI (x7 + x8), jR r35]) (by rw [e40]) ?_
    obtain ⟨v41, e42, e⟩ := jbind e
    refine ey_iald (cd_132 rfl) e42 ?_
    refine ey_cs (s0 := [jI v41, jI (x7 + x8), jR r35]) (s1 := [jI (x7 + x8), jR r35]) (st' := [jI (jd_183 v41), jI (x7 + x8), jR r35]) (cd_132 rfl) mt_132 mt_183 rfl (by decide) rfl rfl (jsml_s rfl) rfl (mm_Runs.up (d := 1) (by decide) (ok_183 )) ?_
    obtain ⟨a43, e44, e⟩ := jbind e
    refine ey_rs (s0 := [jI (jd_183 v41), jI (x7 + x8), jR r35]) (s1 := [jI (jd_183 v41), jI (x7 + x8), jR (some a43)]) (by rw [e44]) ?_
    obtain ⟨h45, e46, e⟩ := jbind e
    refine ey_iast (cd_132 rfl) e46 ?_
    refine ey_iinc (cd_132 rfl) mt_132 rfl f8 ?_
    refine ey_goto (cd_132 rfl) rfl ?_
    cases e
    exact K (jup lv 8 (jI (x8 + 1))) f0 f2 f4 f5 (jup_pi (lv := lv) (j := 7) (v := jI (x8 + 1)) (z := x7) f7) rfl
theorem jk_132_l68 {L : Nat} {xs : Nat → Int32} {this : Nat} {x2 : Option Nat} {x4 : Int} {x5 : Int} {x7 : Int} {x8 : Int} {h : jH} {x : jH} {r : mm_R} (e : jd_132_l68 this x2 x4 x5 x7 x8 h = some x) (K : (∀ lv : jL, ey (mm_xt L xs) 3 132 104 lv [] x r)) : ∀ lv : jL, lv 0 = some (jR (some this)) → lv 2 = some (jR x2) → lv 4 = some (jI x4) → lv 5 = some (jI x5) → lv 7 = some (jI x7) → lv 8 = some (jI x8) → ey (mm_xt L xs) 3 132 68 lv [] h r := by
  unfold jd_132_l68 at e
  exact jlp_ok2 (P := fun s => ∀ lv : jL, lv 0 = some (jR (some this)) → lv 2 = some (jR x2) → lv 4 = some (jI x4) → lv 5 = some (jI x5) → lv 7 = some (jI x7) → lv 8 = some (jI s.1) → ey (mm_xt L xs) 3 132 68 lv [] s.2 r) (Q := fun x => (∀ lv : jL, ey (mm_xt L xs) 3 132 104 lv [] x r)) (fun s q hq hk => jk_132_s68 hq hk) jfu _ x e K
set_option maxRecDepth 100000 in
theorem ok_132 {L : Nat} {xs : Nat → Int32} {this : Nat} {p0 : Option Nat} {p1 : Option Nat} {p2 : Int} {h : jH} {o : (Int × jH)} (e : jd_132 this p0 p1 p2 h = some o) : mm_Runs (mm_xt L xs) 4 132 ([jR (some this), jR p0, jR p1, jI p2].map jcv) (jaH h) (.inl (some (jcv (jI o.1)), jaH o.2)) := by
  refine ey_run0 _ mt_132 (jsl_s rfl) ?_
  unfold jd_132 at e
  refine ey_aload_n (cd_132 rfl) rfl ?_
  refine ey_iload_n (cd_132 rfl) rfl ?_
  obtain ⟨a1, e2, e⟩ := jbind e
  refine ey_rs (s0 := [jI p2, jR p1]) (s1 := [jI p2, jR (some a1)]) (by rw [e2]) ?_
  obtain ⟨u3, e4, e⟩ := jbind e
  obtain ⟨v5, e6, e⟩ := jbind e
  refine ey_cv (s0 := [jI p2, jR (some a1)]) (s1 := []) (st' := [jI v5]) (cd_132 rfl) mt_132 mt_96 rfl rfl rfl (jck_s e4) rfl (jsml_s rfl) rfl (mm_Runs.up (d := 1) (by decide) (ok_96 e6)) ?_
  refine ey_istore (cd_132 rfl) mt_132 rfl ?_
  refine ey_aload_n (cd_132 rfl) rfl ?_
  refine ey_iload_n (cd_132 rfl) (jup_pi (lv := (jlf (jla 0 [jR (some this), jR p0, jR p1, jI p2]))) (j := 3) (v := jI v5) (z := p2) rfl) ?_
  obtain ⟨a7, e8, e⟩ := jbind e
  refine ey_rs (s0 := [jI p2, jR p1]) (s1 := [jI p2, jR (some a7)]) (by rw [e8]) ?_
  obtain ⟨u9, e10, e⟩ := jbind e
  obtain ⟨v11, e12, e⟩ := jbind e
  refine ey_cv (s0 := [jI p2, jR (some a7)]) (s1 := []) (st' := [jI v11]) (cd_132 rfl) mt_132 mt_97 rfl rfl rfl (jck_s e10) rfl (jsml_s rfl) rfl (mm_Runs.up (d := 1) (by decide) (ok_97 e12)) ?_
  refine ey_istore (cd_132 rfl) mt_132 rfl ?_
  refine ey_aload_n (cd_132 rfl) rfl ?_
  refine ey_aload_n (cd_132 rfl) rfl ?_
  refine ey_iload (cd_132 rfl) (jup_pi (lv := (jup (jlf (jla 0 [jR (some this), jR p0, jR p1, jI p2])) 4 (jI v5))) (j := 4) (v := jI v11) (z := v5) rfl) ?_
  refine ey_iload (cd_132 rfl) rfl ?_
  refine ey_imul (cd_132 rfl) ?_
  obtain ⟨u13, e14, e⟩ := jbind e
  obtain ⟨q15, e16, e⟩ := jbind e
  refine ey_cv (s0 := [jI (v5 * v11), jR p0, jR (some this)]) (s1 := []) (st' := [jI q15.1]) (cd_132 rfl) mt_132 mt_133 rfl rfl rfl (jck_s e14) rfl (jsml_s rfl) rfl (ok_133 e16) ?_
  refine ey_istore (cd_132 rfl) mt_132 rfl ?_
  refine ey_iload (cd_132 rfl) rfl ?_
  by_cases q17 : (jw q15.1) = 0
  · rw [if_pos q17] at e
    refine ey_zeq (cd_132 rfl) rfl rfl q17 ?_
    refine ey_aload_n (cd_132 rfl) rfl ?_
    refine ey_iload (cd_132 rfl) (jup_o rfl (jup_pi (lv := (jup (jlf (jla 0 [jR (some this), jR p0, jR p1, jI p2])) 4 (jI v5))) (j := 4) (v := jI v11) (z := v5) rfl)) ?_
    refine ey_iload (cd_132 rfl) (jup_o rfl (jup_pi (lv := (jup (jlf (jla 0 [jR (some this), jR p0, jR p1, jI p2])) 4 (jI v5))) (j := 4) (v := jI v11) (z := v5) rfl)) ?_
    refine ey_iconst (cd_132 rfl) ?_
    refine ey_idiv (cd_132 rfl) (by decide) ?_
    refine ey_iload (cd_132 rfl) (jup_pi (lv := (jup (jup (jlf (jla 0 [jR (some this), jR p0, jR p1, jI p2])) 4 (jI v5)) 5 (jI v11))) (j := 5) (v := jI q15.1) (z := v11) rfl) ?_
    refine ey_iconst (cd_132 rfl) ?_
    refine ey_idiv (cd_132 rfl) (by decide) ?_
    obtain ⟨u18, e19, e⟩ := jbind e
    obtain ⟨h20, e21, e⟩ := jbind e
    refine ey_cv (s0 := [jI (jdiv v11 2), jI (jdiv v5 2), jI v5, jR (some this)]) (s1 := []) (st' := []) (cd_132 rfl) mt_132 mt_136 rfl rfl rfl (jck_s e19) rfl (jsml_s rfl) rfl (mm_Runs.up (d := 2) (by decide) (ok_136 e21)) ?_
    refine ey_aload_n (cd_132 rfl) rfl ?_
    refine ey_iload (cd_132 rfl) (jup_o rfl (jup_pi (lv := (jup (jlf (jla 0 [jR (some this), jR p0, jR p1, jI p2])) 4 (jI v5))) (j := 4) (v := jI v11) (z := v5) rfl)) ?_
    refine ey_iload (cd_132 rfl) (jup_o rfl (jup_pi (lv := (jup (jlf (jla 0 [jR (some this), jR p0, jR p1, jI p2])) 4 (jI v5))) (j := 4) (v := jI v11) (z := v5) rfl)) ?_
    refine ey_iload (cd_132 rfl) (jup_pi (lv := (jup (jup (jlf (jla 0 [jR (some this), jR p0, jR p1, jI p2])) 4 (jI v5)) 5 (jI v11))) (j := 5) (v := jI q15.1) (z := v11) rfl) ?_
    obtain ⟨u22, e23, e⟩ := jbind e
    obtain ⟨h24, e25, e⟩ := jbind e
    refine ey_cv (s0 := [jI v11, jI v5, jI v5, jR (some this)]) (s1 := []) (st' := []) (cd_132 rfl) mt_132 mt_136 rfl rfl rfl (jck_s e23) rfl (jsml_s rfl) rfl (mm_Runs.up (d := 2) (by decide) (ok_136 e25)) ?_
    refine ey_aload_n (cd_132 rfl) rfl ?_
    refine ey_iload_n (cd_132 rfl) (jup_o rfl (jup_o rfl (jup_pi (lv := (jlf (jla 0 [jR (some this), jR p0, jR p1, jI p2]))) (j := 3) (v := jI v5) (z := p2) rfl))) ?_
    obtain ⟨a26, e27, e⟩ := jbind e
    refine ey_rs (s0 := [jI p2, jR p1]) (s1 := [jI p2, jR (some a26)]) (by rw [e27]) ?_
    obtain ⟨u28, e29, e⟩ := jbind e
    obtain ⟨v30, e31, e⟩ := jbind e
    refine ey_cv (s0 := [jI p2, jR (some a26)]) (s1 := []) (st' := [jI v30]) (cd_132 rfl) mt_132 mt_98 rfl rfl rfl (jck_s e29) rfl (jsml_s rfl) rfl (mm_Runs.up (d := 1) (by decide) (ok_98 e31)) ?_
    refine ey_istore (cd_132 rfl) mt_132 rfl ?_
    refine ey_iconst (cd_132 rfl) ?_
    refine ey_istore (cd_132 rfl) mt_132 rfl ?_
    obtain ⟨x47, e48, e⟩ := jbind e
    refine jk_132_l68 e48 ?_ (jup (jup (jup (jup (jup (jlf (jla 0 [jR (some this), jR p0, jR p1, jI p2])) 4 (jI v5)) 5 (jI v11)) 6 (jI q15.1)) 7 (jI v30)) 8 (jI 0)) rfl rfl (jup_o rfl (jup_o rfl (jup_o rfl (jup_pi (lv := (jup (jlf (jla 0 [jR (some this), jR p0, jR p1, jI p2])) 4 (jI v5))) (j := 4) (v := jI v11) (z := v5) rfl)))) (jup_o rfl (jup_o rfl (jup_pi (lv := (jup (jup (jlf (jla 0 [jR (some this), jR p0, jR p1, jI p2])) 4 (jI v5)) 5 (jI v11))) (j := 5) (v := jI q15.1) (z := v11) rfl))) (jup_pi (lv := (jup (jup (jup (jup (jlf (jla 0 [jR (some this), jR p0, jR p1, jI p2])) 4 (jI v5)) 5 (jI v11)) 6 (jI q15.1)) 7 (jI v30))) (j := 7) (v := jI 0) (z := v30) rfl) rfl
    intro lv 
    refine ey_iconst (cd_132 rfl) ?_
    cases e
    exact ey_reti (cd_132 rfl) mt_132 rfl
  · rw [if_neg q17] at e
    refine ey_yeq (cd_132 rfl) rfl rfl q17 ?_
    refine ey_iload (cd_132 rfl) rfl ?_
    cases e
    exact ey_reti (cd_132 rfl) mt_132 rfl
theorem cd_121 {pc : Nat} {i : Instr × Nat} (h : mm_lk mm_c121 pc = some i) : mm_cd 121 pc = some i := h
theorem mt_121 : mm_MT 121 = (8, 4, some .int, 1, 0, []) := rfl
set_option maxRecDepth 100000 in
theorem jk_121_s2 {L : Nat} {xs : Nat → Int32} {this : Nat} {x1 : Option Nat} {x2 : Int} {h : jH} {o : ((Int × jH) ⊕ ((Int × jH) ⊕ jH))} {r : mm_R} (e : jd_121_s2 this x1 x2 h = some o) (K : jsm (fun s => (∀ lv : jL, lv 0 = some (jR (some this)) → lv 1 = some (jR x1) → lv 2 = some (jI s.1) → ey (mm_xt L xs) 4 121 2 lv [] s.2 r)) (fun x => (jsm (fun y => (∀ lv : jL, lv 3 = some (jI y.1) → ey (mm_xt L xs) 4 121 30 lv [] y.2 r)) (fun z => (∀ lv : jL, lv 0 = some (jR (some this)) → ey (mm_xt L xs) 4 121 38 lv [] z r)) x)) o) : ∀ lv : jL, lv 0 = some (jR (some this)) → lv 1 = some (jR x1) → lv 2 = some (jI x2) → ey (mm_xt L xs) 4 121 2 lv [] h r := by
  intro lv f0 f1 f2
  unfold jd_121_s2 at e
  refine ey_iload_n (cd_121 rfl) f2 ?_
  refine ey_iconst (cd_121 rfl) ?_
  by_cases q1 : 3 ≤ (jw x2)
  · rw [if_pos q1] at e
    refine ey_cge (cd_121 rfl) rfl rfl (show jw 3 = 3 from by decide) q1 ?_
    cases e
    exact K lv f0
  · rw [if_neg q1] at e
    refine ey_nge (cd_121 rfl) rfl rfl (show jw 3 = 3 from by decide) q1 ?_
    refine ey_aload_n (cd_121 rfl) f0 ?_
    refine ey_iload_n (cd_121 rfl) f2 ?_
    obtain ⟨h2, e3, e⟩ := jbind e
    refine ey_putf_i (cd_121 rfl) mt_121 rfl rfl rfl e3 ?_
    refine ey_aload_n (cd_121 rfl) f0 ?_
    obtain ⟨r4, e5, e⟩ := jbind e
    refine ey_getf_r (cd_121 rfl) mt_121 rfl rfl rfl e5 ?_
    refine ey_aload_n (cd_121 rfl) f0 ?_
    obtain ⟨r6, e7, e⟩ := jbind e
    refine ey_getf_r (cd_121 rfl) mt_121 rfl rfl rfl e7 ?_
    refine ey_aload_n (cd_121 rfl) f1 ?_
    refine ey_iload_n (cd_121 rfl) f2 ?_
    obtain ⟨a8, e9, e⟩ := jbind e
    refine ey_rs (s0 := [jI x2, jR x1, jR r6, jR r4]) (s1 := [jI x2, jR x1, jR r6, jR (some a8)]) (by rw [e9]) ?_
    obtain ⟨u10, e11, e⟩ := jbind e
    obtain ⟨q12, e13, e⟩ := jbind e
    refine ey_cv (s0 := [jI x2, jR x1, jR r6, jR (some a8)]) (s1 := []) (st' := [jI q12.1]) (cd_121 rfl) mt_121 mt_132 rfl rfl rfl (jck_s e11) rfl (jsml_s rfl) rfl (ok_132 e13) ?_
    refine ey_istore_n (cd_121 rfl) mt_121 rfl ?_
    refine ey_iload_n (cd_121 rfl) rfl ?_
    by_cases q14 : (jw q12.1) = 0
    · rw [if_pos q14] at e
      refine ey_zeq (cd_121 rfl) rfl rfl q14 ?_
      refine ey_iinc (cd_121 rfl) mt_121 rfl (jup_pi (lv := lv) (j := 2) (v := jI q12.1) (z := x2) f2) ?_
      refine ey_goto (cd_121 rfl) rfl ?_
      cases e
      exact K (jup (jup lv 3 (jI q12.1)) 2 (jI (x2 + 1))) f0 (jup_pr (lv := (jup lv 3 (jI q12.1))) (j := 1) (v := jI (x2 + 1)) (z := x1) f1) rfl
    · rw [if_neg q14] at e
      refine ey_yeq (cd_121 rfl) rfl rfl q14 ?_
      cases e
      exact K (jup lv 3 (jI q12.1)) rfl
theorem jk_121_l2 {L : Nat} {xs : Nat → Int32} {this : Nat} {x1 : Option Nat} {x2 : Int} {h : jH} {x : ((Int × jH) ⊕ jH)} {r : mm_R} (e : jd_121_l2 this x1 x2 h = some x) (K : (jsm (fun y => (∀ lv : jL, lv 3 = some (jI y.1) → ey (mm_xt L xs) 4 121 30 lv [] y.2 r)) (fun z => (∀ lv : jL, lv 0 = some (jR (some this)) → ey (mm_xt L xs) 4 121 38 lv [] z r)) x)) : ∀ lv : jL, lv 0 = some (jR (some this)) → lv 1 = some (jR x1) → lv 2 = some (jI x2) → ey (mm_xt L xs) 4 121 2 lv [] h r := by
  unfold jd_121_l2 at e
  exact jlp_ok2 (P := fun s => ∀ lv : jL, lv 0 = some (jR (some this)) → lv 1 = some (jR x1) → lv 2 = some (jI s.1) → ey (mm_xt L xs) 4 121 2 lv [] s.2 r) (Q := fun x => (jsm (fun y => (∀ lv : jL, lv 3 = some (jI y.1) → ey (mm_xt L xs) 4 121 30 lv [] y.2 r)) (fun z => (∀ lv : jL, lv 0 = some (jR (some this)) → ey (mm_xt L xs) 4 121 38 lv [] z r)) x)) (fun s q hq hk => jk_121_s2 hq hk) jfu _ x e K
set_option maxRecDepth 100000 in
theorem ok_121 {L : Nat} {xs : Nat → Int32} {this : Nat} {p0 : Option Nat} {h : jH} {o : (Int × jH)} (e : jd_121 this p0 h = some o) : mm_Runs (mm_xt L xs) 5 121 ([jR (some this), jR p0].map jcv) (jaH h) (.inl (some (jcv (jI o.1)), jaH o.2)) := by
  refine ey_run0 _ mt_121 (jsl_s rfl) ?_
  unfold jd_121 at e
  refine ey_iconst (cd_121 rfl) ?_
  refine ey_istore_n (cd_121 rfl) mt_121 rfl ?_
  obtain ⟨x15, e16, e⟩ := jbind e
  refine jk_121_l2 e16 ?_ (jup (jlf (jla 0 [jR (some this), jR p0])) 2 (jI 0)) rfl (jup_pr (lv := (jlf (jla 0 [jR (some this), jR p0]))) (j := 1) (v := jI 0) (z := p0) rfl) rfl
  cases x15 with
  | inl y17 =>
    replace e : (some (y17.1, y17.2) : Option (Int × jH)) = some o := e
    intro lv g3
    refine ey_iload_n (cd_121 rfl) g3 ?_
    cases e
    exact ey_reti (cd_121 rfl) mt_121 rfl
  | inr y18 =>
    replace e : (((jpi y18 this 8 6 3).bind fun h19 => some (0, h19)) : Option (Int × jH)) = some o := e
    intro lv g0
    refine ey_aload_n (cd_121 rfl) g0 ?_
    refine ey_iconst (cd_121 rfl) ?_
    obtain ⟨h19, e20, e⟩ := jbind e
    refine ey_putf_i (cd_121 rfl) mt_121 rfl rfl rfl e20 ?_
    refine ey_iconst (cd_121 rfl) ?_
    cases e
    exact ey_reti (cd_121 rfl) mt_121 rfl
theorem cd_125 {pc : Nat} {i : Instr × Nat} (h : mm_lk mm_c125 pc = some i) : mm_cd 125 pc = some i := h
theorem mt_125 : mm_MT 125 = (9, 13, some .int, 6, 0, []) := rfl
set_option maxRecDepth 100000 in
theorem jk_125_b120 {L : Nat} {xs : Nat → Int32} {this : Nat} {x1 : Option Nat} {x2 : Option Nat} {x4 : Option Nat} {x5 : Int} {x6 : Int} {x7 : Int} {x8 : Int} {x9 : Int} {x10 : Int} {x11 : Int} {x12 : Int} {h : jH} {o : ((Int × Int × jH) ⊕ (jH ⊕ jH))} {r : mm_R} (e : jd_125_b120 this x1 x2 x4 x5 x6 x7 x8 x9 x10 x11 x12 h = some o) (K : jsm (fun s => (∀ lv : jL, lv 0 = some (jR (some this)) → lv 1 = some (jR x1) → lv 2 = some (jR x2) → lv 4 = some (jR x4) → lv 5 = some (jI x5) → lv 6 = some (jI x6) → lv 7 = some (jI x7) → lv 8 = some (jI x8) → lv 9 = some (jI s.1) → lv 10 = some (jI s.2.1) → ey (mm_xt L xs) 2 125 20 lv [] s.2.2 r)) (fun x => (jsm (fun y => (∀ lv : jL, lv 1 = some (jR x1) → ey (mm_xt L xs) 2 125 54 lv [] y r)) (fun z => (∀ lv : jL, ey (mm_xt L xs) 2 125 145 lv [] z r)) x)) o) : ∀ lv : jL, lv 0 = some (jR (some this)) → lv 1 = some (jR x1) → lv 2 = some (jR x2) → lv 4 = some (jR x4) → lv 5 = some (jI x5) → lv 6 = some (jI x6) → lv 7 = some (jI x7) → lv 8 = some (jI x8) → lv 9 = some (jI x9) → lv 10 = some (jI x10) → lv 11 = some (jI x11) → lv 12 = some (jI x12) → ey (mm_xt L xs) 2 125 120 lv [] h r := by
  intro lv f0 f1 f2 f4 f5 f6 f7 f8 f9 f10 f11 f12
  unfold jd_125_b120 at e
  refine ey_aload_n (cd_125 rfl) f2 ?_
  obtain ⟨a30, e31, e⟩ := jbind e
  refine ey_rs (s0 := [jR x2]) (s1 := [jR (some a30)]) (by rw [e31]) ?_
  obtain ⟨r32, e33, e⟩ := jbind e
  refine ey_getf_r (cd_125 rfl) mt_125 rfl rfl rfl e33 ?_
  refine ey_iload (cd_125 rfl) f11 ?_
  refine ey_iload (cd_125 rfl) f12 ?_
  obtain ⟨a34, e35, e⟩ := jbind e
  refine ey_rs (s0 := [jI x12, jI x11, jR r32]) (s1 := [jI x12, jI x11, jR (some a34)]) (by rw [e35]) ?_
  obtain ⟨h36, e37, e⟩ := jbind e
  refine ey_iast (cd_125 rfl) e37 ?_
  refine ey_aload_n (cd_125 rfl) f0 ?_
  refine ey_dup (cd_125 rfl) rfl ?_
  obtain ⟨v38, e39, e⟩ := jbind e
  refine ey_getf_i (cd_125 rfl) mt_125 rfl rfl rfl e39 ?_
  refine ey_iconst (cd_125 rfl) ?_
  refine ey_iadd (cd_125 rfl) ?_
  obtain ⟨h40, e41, e⟩ := jbind e
  refine ey_putf_i (cd_125 rfl) mt_125 rfl rfl rfl e41 ?_
  refine ey_iinc (cd_125 rfl) mt_125 rfl f10 ?_
  refine ey_goto (cd_125 rfl) rfl ?_
  cases e
  exact K (jup lv 10 (jI (x10 + 1))) f0 f1 f2 f4 f5 f6 f7 f8 (jup_pi (lv := lv) (j := 9) (v := jI (x10 + 1)) (z := x9) f9) rfl
set_option maxRecDepth 100000 in
theorem jk_125_b93 {L : Nat} {xs : Nat → Int32} {this : Nat} {x1 : Option Nat} {x2 : Option Nat} {x4 : Option Nat} {x5 : Int} {x6 : Int} {x7 : Int} {x8 : Int} {x9 : Int} {x10 : Int} {x11 : Int} {x12 : Int} {h : jH} {o : ((Int × Int × jH) ⊕ (jH ⊕ jH))} {r : mm_R} (e : jd_125_b93 this x1 x2 x4 x5 x6 x7 x8 x9 x10 x11 x12 h = some o) (K : jsm (fun s => (∀ lv : jL, lv 0 = some (jR (some this)) → lv 1 = some (jR x1) → lv 2 = some (jR x2) → lv 4 = some (jR x4) → lv 5 = some (jI x5) → lv 6 = some (jI x6) → lv 7 = some (jI x7) → lv 8 = some (jI x8) → lv 9 = some (jI s.1) → lv 10 = some (jI s.2.1) → ey (mm_xt L xs) 2 125 20 lv [] s.2.2 r)) (fun x => (jsm (fun y => (∀ lv : jL, lv 1 = some (jR x1) → ey (mm_xt L xs) 2 125 54 lv [] y r)) (fun z => (∀ lv : jL, ey (mm_xt L xs) 2 125 145 lv [] z r)) x)) o) : ∀ lv : jL, lv 0 = some (jR (some this)) → lv 1 = some (jR x1) → lv 2 = some (jR x2) → lv 4 = some (jR x4) → lv 5 = some (jI x5) → lv 6 = some (jI x6) → lv 7 = some (jI x7) → lv 8 = some (jI x8) → lv 9 = some (jI x9) → lv 10 = some (jI x10) → lv 11 = some (jI x11) → lv 12 = some (jI x12) → ey (mm_xt L xs) 2 125 93 lv [] h r := by
  intro lv f0 f1 f2 f4 f5 f6 f7 f8 f9 f10 f11 f12
  unfold jd_125_b93 at e
  refine ey_iload (cd_125 rfl) f5 ?_
  refine ey_iconst (cd_125 rfl) ?_
  by_cases q26 : (jw x5) = 2
  · rw [if_pos q26] at e
    refine ey_nne (cd_125 rfl) rfl rfl (show jw 2 = 2 from by decide) (fun w => w q26) ?_
    refine ey_aload_n (cd_125 rfl) f0 ?_
    obtain ⟨v27, e28, e⟩ := jbind e
    refine ey_getf_i (cd_125 rfl) mt_125 rfl rfl rfl e28 ?_
    refine ey_iload (cd_125 rfl) f7 ?_
    by_cases q29 : (jw v27) < (jw x7)
    · rw [if_pos q29] at e
      refine ey_clt (cd_125 rfl) rfl rfl rfl q29 ?_
      exact jk_125_b120 e K lv f0 f1 f2 f4 f5 f6 f7 f8 f9 f10 f11 f12
    · rw [if_neg q29] at e
      refine ey_nlt (cd_125 rfl) rfl rfl rfl q29 ?_
      refine ey_aload_n (cd_125 rfl) f2 ?_
      obtain ⟨a42, e43, e⟩ := jbind e
      refine ey_rs (s0 := [jR x2]) (s1 := [jR (some a42)]) (by rw [e43]) ?_
      obtain ⟨r44, e45, e⟩ := jbind e
      refine ey_getf_r (cd_125 rfl) mt_125 rfl rfl rfl e45 ?_
      refine ey_iload (cd_125 rfl) f11 ?_
      refine ey_iload (cd_125 rfl) f7 ?_
      refine ey_isub (cd_125 rfl) ?_
      obtain ⟨a46, e47, e⟩ := jbind e
      refine ey_rs (s0 := [jI (x11 - x7), jR r44]) (s1 := [jI (x11 - x7), jR (some a46)]) (by rw [e47]) ?_
      obtain ⟨v48, e49, e⟩ := jbind e
      refine ey_iald (cd_125 rfl) e49 ?_
      refine ey_istore (cd_125 rfl) mt_125 rfl ?_
      exact jk_125_b120 e K (jup lv 12 (jI v48)) f0 f1 f2 f4 f5 f6 f7 f8 f9 f10 (jup_pi (lv := lv) (j := 11) (v := jI v48) (z := x11) f11) rfl
  · rw [if_neg q26] at e
    refine ey_cne (cd_125 rfl) rfl rfl (show jw 2 = 2 from by decide) q26 ?_
    exact jk_125_b120 e K lv f0 f1 f2 f4 f5 f6 f7 f8 f9 f10 f11 f12
set_option maxRecDepth 100000 in
theorem jk_125_b59 {L : Nat} {xs : Nat → Int32} {this : Nat} {x1 : Option Nat} {x2 : Option Nat} {x4 : Option Nat} {x5 : Int} {x6 : Int} {x7 : Int} {x8 : Int} {x9 : Int} {x10 : Int} {h : jH} {o : ((Int × Int × jH) ⊕ (jH ⊕ jH))} {r : mm_R} (e : jd_125_b59 this x1 x2 x4 x5 x6 x7 x8 x9 x10 h = some o) (K : jsm (fun s => (∀ lv : jL, lv 0 = some (jR (some this)) → lv 1 = some (jR x1) → lv 2 = some (jR x2) → lv 4 = some (jR x4) → lv 5 = some (jI x5) → lv 6 = some (jI x6) → lv 7 = some (jI x7) → lv 8 = some (jI x8) → lv 9 = some (jI s.1) → lv 10 = some (jI s.2.1) → ey (mm_xt L xs) 2 125 20 lv [] s.2.2 r)) (fun x => (jsm (fun y => (∀ lv : jL, lv 1 = some (jR x1) → ey (mm_xt L xs) 2 125 54 lv [] y r)) (fun z => (∀ lv : jL, ey (mm_xt L xs) 2 125 145 lv [] z r)) x)) o) : ∀ lv : jL, lv 0 = some (jR (some this)) → lv 1 = some (jR x1) → lv 2 = some (jR x2) → lv 4 = some (jR x4) → lv 5 = some (jI x5) → lv 6 = some (jI x6) → lv 7 = some (jI x7) → lv 8 = some (jI x8) → lv 9 = some (jI x9) → lv 10 = some (jI x10) → ey (mm_xt L xs) 2 125 59 lv [] h r := by
  intro lv f0 f1 f2 f4 f5 f6 f7 f8 f9 f10
  unfold jd_125_b59 at e
  refine ey_iload (cd_125 rfl) f8 ?_
  refine ey_aload_n (cd_125 rfl) f0 ?_
  obtain ⟨v22, e23, e⟩ := jbind e
  refine ey_getf_i (cd_125 rfl) mt_125 rfl rfl rfl e23 ?_
  refine ey_iadd (cd_125 rfl) ?_
  refine ey_istore (cd_125 rfl) mt_125 rfl ?_
  refine ey_iload (cd_125 rfl) f9 ?_
  refine ey_istore (cd_125 rfl) mt_125 rfl ?_
  refine ey_iload (cd_125 rfl) f5 ?_
  refine ey_iconst (cd_125 rfl) ?_
  by_cases q24 : (jw x5) = 1
  · rw [if_pos q24] at e
    refine ey_nne (cd_125 rfl) rfl rfl (show jw 1 = 1 from by decide) (fun w => w q24) ?_
    refine ey_aload (cd_125 rfl) f4 ?_
    by_cases q25 : x4 = none
    · rw [if_pos q25] at e
      refine ey_rs (s0 := [jR x4]) (s1 := [jR none]) (by rw [q25]) ?_
      refine ey_ifnull_n (cd_125 rfl) rfl ?_
      exact jk_125_b93 e K (jup (jup lv 11 (jI (x8 + v22))) 12 (jI x9)) f0 f1 f2 f4 f5 f6 f7 f8 f9 (jup_o rfl (jup_pi (lv := lv) (j := 10) (v := jI (x8 + v22)) (z := x10) f10)) (jup_pi (lv := (jup lv 11 (jI (x8 + v22)))) (j := 11) (v := jI x9) (z := (x8 + v22)) rfl) rfl
    · rw [if_neg q25] at e
      obtain ⟨w58, w58e⟩ := Option.ne_none_iff_exists'.mp q25
      refine ey_rs (s0 := [jR x4]) (s1 := [jR (some w58)]) (by rw [w58e]) ?_
      refine ey_ifnull_s (cd_125 rfl) rfl ?_
      refine ey_aload (cd_125 rfl) f4 ?_
      obtain ⟨a50, e51, e⟩ := jbind e
      refine ey_rs (s0 := [jR x4]) (s1 := [jR (some a50)]) (by rw [e51]) ?_
      obtain ⟨r52, e53, e⟩ := jbind e
      refine ey_getf_r (cd_125 rfl) mt_125 rfl rfl rfl e53 ?_
      refine ey_iload (cd_125 rfl) (jup_pi (lv := (jup lv 11 (jI (x8 + v22)))) (j := 11) (v := jI x9) (z := (x8 + v22)) rfl) ?_
      obtain ⟨a54, e55, e⟩ := jbind e
      refine ey_rs (s0 := [jI (x8 + v22), jR r52]) (s1 := [jI (x8 + v22), jR (some a54)]) (by rw [e55]) ?_
      obtain ⟨v56, e57, e⟩ := jbind e
      refine ey_iald (cd_125 rfl) e57 ?_
      refine ey_istore (cd_125 rfl) mt_125 rfl ?_
      exact jk_125_b93 e K (jup (jup (jup lv 11 (jI (x8 + v22))) 12 (jI x9)) 12 (jI v56)) f0 f1 f2 f4 f5 f6 f7 f8 f9 (jup_o rfl (jup_o rfl (jup_pi (lv := lv) (j := 10) (v := jI (x8 + v22)) (z := x10) f10))) (jup_pi (lv := (jup (jup lv 11 (jI (x8 + v22))) 12 (jI x9))) (j := 11) (v := jI v56) (z := (x8 + v22)) (jup_pi (lv := (jup lv 11 (jI (x8 + v22)))) (j := 11) (v := jI x9) (z := (x8 + v22)) rfl)) rfl
  · rw [if_neg q24] at e
    refine ey_cne (cd_125 rfl) rfl rfl (show jw 1 = 1 from by decide) q24 ?_
    exact jk_125_b93 e K (jup (jup lv 11 (jI (x8 + v22))) 12 (jI x9)) f0 f1 f2 f4 f5 f6 f7 f8 f9 (jup_o rfl (jup_pi (lv := lv) (j := 10) (v := jI (x8 + v22)) (z := x10) f10)) (jup_pi (lv := (jup lv 11 (jI (x8 + v22)))) (j := 11) (v := jI x9) (z := (x8 + v22)) rfl) rfl
set_option maxRecDepth 100000 in
theorem jk_125_b43 {L : Nat} {xs : Nat → Int32} {this : Nat} {x1 : Option Nat} {x2 : Option Nat} {x4 : Option Nat} {x5 : Int} {x6 : Int} {x7 : Int} {x8 : Int} {x10 : Int} {h : jH} {o : ((Int × Int × jH) ⊕ (jH ⊕ jH))} {r : mm_R} (e : jd_125_b43 this x1 x2 x4 x5 x6 x7 x8 x10 h = some o) (K : jsm (fun s => (∀ lv : jL, lv 0 = some (jR (some this)) → lv 1 = some (jR x1) → lv 2 = some (jR x2) → lv 4 = some (jR x4) → lv 5 = some (jI x5) → lv 6 = some (jI x6) → lv 7 = some (jI x7) → lv 8 = some (jI x8) → lv 9 = some (jI s.1) → lv 10 = some (jI s.2.1) → ey (mm_xt L xs) 2 125 20 lv [] s.2.2 r)) (fun x => (jsm (fun y => (∀ lv : jL, lv 1 = some (jR x1) → ey (mm_xt L xs) 2 125 54 lv [] y r)) (fun z => (∀ lv : jL, ey (mm_xt L xs) 2 125 145 lv [] z r)) x)) o) : ∀ lv : jL, lv 0 = some (jR (some this)) → lv 1 = some (jR x1) → lv 2 = some (jR x2) → lv 4 = some (jR x4) → lv 5 = some (jI x5) → lv 6 = some (jI x6) → lv 7 = some (jI x7) → lv 8 = some (jI x8) → lv 10 = some (jI x10) → ey (mm_xt L xs) 2 125 43 lv [] h r := by
  intro lv f0 f1 f2 f4 f5 f6 f7 f8 f10
  unfold jd_125_b43 at e
  refine ey_aload_n (cd_125 rfl) f1 ?_
  obtain ⟨a15, e16, e⟩ := jbind e
  refine ey_rs (s0 := [jR x1]) (s1 := [jR (some a15)]) (by rw [e16]) ?_
  obtain ⟨u17, e18, e⟩ := jbind e
  obtain ⟨q19, e20, e⟩ := jbind e
  refine ey_cv (s0 := [jR (some a15)]) (s1 := []) (st' := [jI q19.1]) (cd_125 rfl) mt_125 mt_3 rfl rfl rfl (jck_s e18) rfl (jsml_s rfl) rfl (ok_3 e20) ?_
  refine ey_istore (cd_125 rfl) mt_125 rfl ?_
  refine ey_iload (cd_125 rfl) rfl ?_
  by_cases q21 : 0 ≤ (jw q19.1)
  · rw [if_pos q21] at e
    refine ey_zge (cd_125 rfl) rfl rfl q21 ?_
    exact jk_125_b59 e K (jup lv 9 (jI q19.1)) f0 f1 f2 f4 f5 f6 f7 (jup_pi (lv := lv) (j := 8) (v := jI q19.1) (z := x8) f8) rfl f10
  · rw [if_neg q21] at e
    refine ey_yge (cd_125 rfl) rfl rfl q21 ?_
    cases e
    exact K (jup lv 9 (jI q19.1)) f1
set_option maxRecDepth 100000 in
theorem jk_125_s20 {L : Nat} {xs : Nat → Int32} {this : Nat} {x1 : Option Nat} {x2 : Option Nat} {x4 : Option Nat} {x5 : Int} {x6 : Int} {x7 : Int} {x8 : Int} {x9 : Int} {x10 : Int} {h : jH} {o : ((Int × Int × jH) ⊕ (jH ⊕ jH))} {r : mm_R} (e : jd_125_s20 this x1 x2 x4 x5 x6 x7 x8 x9 x10 h = some o) (K : jsm (fun s => (∀ lv : jL, lv 0 = some (jR (some this)) → lv 1 = some (jR x1) → lv 2 = some (jR x2) → lv 4 = some (jR x4) → lv 5 = some (jI x5) → lv 6 = some (jI x6) → lv 7 = some (jI x7) → lv 8 = some (jI x8) → lv 9 = some (jI s.1) → lv 10 = some (jI s.2.1) → ey (mm_xt L xs) 2 125 20 lv [] s.2.2 r)) (fun x => (jsm (fun y => (∀ lv : jL, lv 1 = some (jR x1) → ey (mm_xt L xs) 2 125 54 lv [] y r)) (fun z => (∀ lv : jL, ey (mm_xt L xs) 2 125 145 lv [] z r)) x)) o) : ∀ lv : jL, lv 0 = some (jR (some this)) → lv 1 = some (jR x1) → lv 2 = some (jR x2) → lv 4 = some (jR x4) → lv 5 = some (jI x5) → lv 6 = some (jI x6) → lv 7 = some (jI x7) → lv 8 = some (jI x8) → lv 9 = some (jI x9) → lv 10 = some (jI x10) → ey (mm_xt L xs) 2 125 20 lv [] h r := by
  intro lv f0 f1 f2 f4 f5 f6 f7 f8 f9 f10
  unfold jd_125_s20 at e
  refine ey_iload (cd_125 rfl) f10 ?_
  refine ey_iload (cd_125 rfl) f6 ?_
  by_cases q13 : (jw x6) ≤ (jw x10)
  · rw [if_pos q13] at e
    refine ey_cge (cd_125 rfl) rfl rfl rfl q13 ?_
    cases e
    exact K lv 
  · rw [if_neg q13] at e
    refine ey_nge (cd_125 rfl) rfl rfl rfl q13 ?_
    refine ey_iload (cd_125 rfl) f5 ?_
    refine ey_iconst (cd_125 rfl) ?_
    by_cases q14 : (jw x5) = 3
    · rw [if_pos q14] at e
      refine ey_ceq (cd_125 rfl) rfl rfl (show jw 3 = 3 from by decide) q14 ?_
      exact jk_125_b43 e K lv f0 f1 f2 f4 f5 f6 f7 f8 f10
    · rw [if_neg q14] at e
      refine ey_neq (cd_125 rfl) rfl rfl (show jw 3 = 3 from by decide) q14 ?_
      refine ey_iload (cd_125 rfl) f5 ?_
      by_cases q59 : (jw x5) = 0
      · rw [if_pos q59] at e
        refine ey_yne (cd_125 rfl) rfl rfl (fun w => w q59) ?_
        refine ey_iload (cd_125 rfl) f10 ?_
        by_cases q60 : (jw x10) = 0
        · rw [if_pos q60] at e
          refine ey_yne (cd_125 rfl) rfl rfl (fun w => w q60) ?_
          exact jk_125_b43 e K lv f0 f1 f2 f4 f5 f6 f7 f8 f10
        · rw [if_neg q60] at e
          refine ey_zne (cd_125 rfl) rfl rfl q60 ?_
          exact jk_125_b59 e K lv f0 f1 f2 f4 f5 f6 f7 f8 f9 f10
      · rw [if_neg q59] at e
        refine ey_zne (cd_125 rfl) rfl rfl q59 ?_
        exact jk_125_b59 e K lv f0 f1 f2 f4 f5 f6 f7 f8 f9 f10
theorem jk_125_l20 {L : Nat} {xs : Nat → Int32} {this : Nat} {x1 : Option Nat} {x2 : Option Nat} {x4 : Option Nat} {x5 : Int} {x6 : Int} {x7 : Int} {x8 : Int} {x9 : Int} {x10 : Int} {h : jH} {x : (jH ⊕ jH)} {r : mm_R} (e : jd_125_l20 this x1 x2 x4 x5 x6 x7 x8 x9 x10 h = some x) (K : (jsm (fun y => (∀ lv : jL, lv 1 = some (jR x1) → ey (mm_xt L xs) 2 125 54 lv [] y r)) (fun z => (∀ lv : jL, ey (mm_xt L xs) 2 125 145 lv [] z r)) x)) : ∀ lv : jL, lv 0 = some (jR (some this)) → lv 1 = some (jR x1) → lv 2 = some (jR x2) → lv 4 = some (jR x4) → lv 5 = some (jI x5) → lv 6 = some (jI x6) → lv 7 = some (jI x7) → lv 8 = some (jI x8) → lv 9 = some (jI x9) → lv 10 = some (jI x10) → ey (mm_xt L xs) 2 125 20 lv [] h r := by
  unfold jd_125_l20 at e
  exact jlp_ok2 (P := fun s => ∀ lv : jL, lv 0 = some (jR (some this)) → lv 1 = some (jR x1) → lv 2 = some (jR x2) → lv 4 = some (jR x4) → lv 5 = some (jI x5) → lv 6 = some (jI x6) → lv 7 = some (jI x7) → lv 8 = some (jI x8) → lv 9 = some (jI s.1) → lv 10 = some (jI s.2.1) → ey (mm_xt L xs) 2 125 20 lv [] s.2.2 r) (Q := fun x => (jsm (fun y => (∀ lv : jL, lv 1 = some (jR x1) → ey (mm_xt L xs) 2 125 54 lv [] y r)) (fun z => (∀ lv : jL, ey (mm_xt L xs) 2 125 145 lv [] z r)) x)) (fun s q hq hk => jk_125_s20 hq hk) jfu _ x e K
set_option maxRecDepth 100000 in
theorem ok_125 {L : Nat} {xs : Nat → Int32} {this : Nat} {p0 : Option Nat} {p1 : Option Nat} {p2 : Int} {p3 : Option Nat} {p4 : Int} {p5 : Int} {h : jH} {o : (Int × jH)} (e : jd_125 this p0 p1 p2 p3 p4 p5 h = some o) : mm_Runs (mm_xt L xs) 3 125 ([jR (some this), jR p0, jR p1, jI p2, jR p3, jI p4, jI p5].map jcv) (jaH h) (.inl (some (jcv (jI o.1)), jaH o.2)) := by
  refine ey_run0 _ mt_125 (jsl_s rfl) ?_
  unfold jd_125 at e
  refine ey_aload_n (cd_125 rfl) rfl ?_
  refine ey_iload_n (cd_125 rfl) rfl ?_
  obtain ⟨a1, e2, e⟩ := jbind e
  refine ey_rs (s0 := [jI p2, jR p1]) (s1 := [jI p2, jR (some a1)]) (by rw [e2]) ?_
  obtain ⟨u3, e4, e⟩ := jbind e
  obtain ⟨v5, e6, e⟩ := jbind e
  refine ey_cv (s0 := [jI p2, jR (some a1)]) (s1 := []) (st' := [jI v5]) (cd_125 rfl) mt_125 mt_96 rfl rfl rfl (jck_s e4) rfl (jsml_s rfl) rfl (mm_Runs.up (d := 1) (by decide) (ok_96 e6)) ?_
  refine ey_istore (cd_125 rfl) mt_125 rfl ?_
  refine ey_aload_n (cd_125 rfl) rfl ?_
  refine ey_iload_n (cd_125 rfl) rfl ?_
  obtain ⟨a7, e8, e⟩ := jbind e
  refine ey_rs (s0 := [jI p2, jR p1]) (s1 := [jI p2, jR (some a7)]) (by rw [e8]) ?_
  obtain ⟨u9, e10, e⟩ := jbind e
  obtain ⟨v11, e12, e⟩ := jbind e
  refine ey_cv (s0 := [jI p2, jR (some a7)]) (s1 := []) (st' := [jI v11]) (cd_125 rfl) mt_125 mt_98 rfl rfl rfl (jck_s e10) rfl (jsml_s rfl) rfl (mm_Runs.up (d := 1) (by decide) (ok_98 e12)) ?_
  refine ey_istore (cd_125 rfl) mt_125 rfl ?_
  refine ey_iconst (cd_125 rfl) ?_
  refine ey_istore (cd_125 rfl) mt_125 rfl ?_
  refine ey_iconst (cd_125 rfl) ?_
  refine ey_istore (cd_125 rfl) mt_125 rfl ?_
  obtain ⟨x61, e62, e⟩ := jbind e
  refine jk_125_l20 e62 ?_ (jup (jup (jup (jup (jlf (jla 0 [jR (some this), jR p0, jR p1, jI p2, jR p3, jI p4, jI p5])) 7 (jI v5)) 8 (jI v11)) 9 (jI 0)) 10 (jI 0)) rfl rfl rfl rfl rfl (jup_o rfl (jup_o rfl (jup_o rfl (jup_pi (lv := (jlf (jla 0 [jR (some this), jR p0, jR p1, jI p2, jR p3, jI p4, jI p5]))) (j := 6) (v := jI v5) (z := p5) rfl)))) (jup_o rfl (jup_o rfl (jup_pi (lv := (jup (jlf (jla 0 [jR (some this), jR p0, jR p1, jI p2, jR p3, jI p4, jI p5])) 7 (jI v5))) (j := 7) (v := jI v11) (z := v5) rfl))) (jup_o rfl (jup_pi (lv := (jup (jup (jlf (jla 0 [jR (some this), jR p0, jR p1, jI p2, jR p3, jI p4, jI p5])) 7 (jI v5)) 8 (jI v11))) (j := 8) (v := jI 0) (z := v11) rfl)) (jup_pi (lv := (jup (jup (jup (jlf (jla 0 [jR (some this), jR p0, jR p1, jI p2, jR p3, jI p4, jI p5])) 7 (jI v5)) 8 (jI v11)) 9 (jI 0))) (j := 9) (v := jI 0) (z := 0) rfl) rfl
  cases x61 with
  | inl y63 =>
    replace e : (((p0).bind fun a65 => ((jgi y63 a65 0 3).bind fun v67 => some (v67, y63))) : Option (Int × jH)) = some o := e
    intro lv g1
    refine ey_aload_n (cd_125 rfl) g1 ?_
    obtain ⟨a65, e66, e⟩ := jbind e
    refine ey_rs (s0 := [jR p0]) (s1 := [jR (some a65)]) (by rw [e66]) ?_
    obtain ⟨v67, e68, e⟩ := jbind e
    refine ey_getf_i (cd_125 rfl) mt_125 rfl rfl rfl e68 ?_
    cases e
    exact ey_reti (cd_125 rfl) mt_125 rfl
  | inr y64 =>
    replace e : (some (0, y64) : Option (Int × jH)) = some o := e
    intro lv 
    refine ey_iconst (cd_125 rfl) ?_
    cases e
    exact ey_reti (cd_125 rfl) mt_125 rfl
theorem cd_124 {pc : Nat} {i : Instr × Nat} (h : mm_lk mm_c124 pc = some i) : mm_cd 124 pc = some i := h
theorem mt_124 : mm_MT 124 = (9, 11, some .int, 4, 0, []) := rfl
set_option maxRecDepth 100000 in
theorem jk_124_b121 {L : Nat} {xs : Nat → Int32} {this : Nat} {x1 : Option Nat} {x2 : Option Nat} {x3 : Int} {x4 : Option Nat} {x5 : Int} {x6 : Int} {x7 : Int} {x8 : Int} {x9 : Int} {h : jH} {o : ((Int × jH) ⊕ (jH ⊕ (jH ⊕ (jH ⊕ (jH ⊕ ((Int × jH) ⊕ jH))))))} {r : mm_R} (e : jd_124_b121 this x1 x2 x3 x4 x5 x6 x7 x8 x9 h = some o) (K : jsm (fun s => (∀ lv : jL, lv 0 = some (jR (some this)) → lv 1 = some (jR x1) → lv 2 = some (jR x2) → lv 3 = some (jI x3) → lv 4 = some (jR x4) → lv 5 = some (jI x5) → lv 6 = some (jI x6) → lv 7 = some (jI s.1) → ey (mm_xt L xs) 3 124 25 lv [] s.2 r)) (fun x => (jsm (fun y => (∀ lv : jL, lv 1 = some (jR x1) → ey (mm_xt L xs) 3 124 52 lv [] y r)) (fun z => (jsm (fun y => (∀ lv : jL, ey (mm_xt L xs) 3 124 74 lv [] y r)) (fun z => (jsm (fun y => (∀ lv : jL, lv 1 = some (jR x1) → ey (mm_xt L xs) 3 124 87 lv [] y r)) (fun z => (jsm (fun y => (∀ lv : jL, ey (mm_xt L xs) 3 124 119 lv [] y r)) (fun z => (jsm (fun y => (∀ lv : jL, lv 10 = some (jI y.1) → ey (mm_xt L xs) 3 124 143 lv [] y.2 r)) (fun z => (∀ lv : jL, ey (mm_xt L xs) 3 124 152 lv [] z r)) z)) z)) z)) z)) x)) o) : ∀ lv : jL, lv 0 = some (jR (some this)) → lv 1 = some (jR x1) → lv 2 = some (jR x2) → lv 3 = some (jI x3) → lv 4 = some (jR x4) → lv 5 = some (jI x5) → lv 6 = some (jI x6) → lv 7 = some (jI x7) → lv 8 = some (jI x8) → lv 9 = some (jI x9) → ey (mm_xt L xs) 3 124 121 lv [] h r := by
  intro lv f0 f1 f2 f3 f4 f5 f6 f7 f8 f9
  unfold jd_124_b121 at e
  refine ey_aload_n (cd_124 rfl) f0 ?_
  refine ey_aload_n (cd_124 rfl) f1 ?_
  refine ey_aload_n (cd_124 rfl) f2 ?_
  refine ey_iload_n (cd_124 rfl) f3 ?_
  refine ey_aload (cd_124 rfl) f4 ?_
  refine ey_iload (cd_124 rfl) f8 ?_
  refine ey_iload (cd_124 rfl) f9 ?_
  refine ey_iconst (cd_124 rfl) ?_
  refine ey_iadd (cd_124 rfl) ?_
  obtain ⟨u43, e44, e⟩ := jbind e
  obtain ⟨q45, e46, e⟩ := jbind e
  refine ey_cv (s0 := [jI (x9 + 1), jI x8, jR x4, jI x3, jR x2, jR x1, jR (some this)]) (s1 := []) (st' := [jI q45.1]) (cd_124 rfl) mt_124 mt_125 rfl rfl rfl (jck_s e44) rfl (jsml_s rfl) rfl (ok_125 e46) ?_
  refine ey_istore (cd_124 rfl) mt_124 rfl ?_
  refine ey_iload (cd_124 rfl) rfl ?_
  by_cases q47 : (jw q45.1) = 0
  · rw [if_pos q47] at e
    refine ey_zeq (cd_124 rfl) rfl rfl q47 ?_
    refine ey_iinc (cd_124 rfl) mt_124 rfl f7 ?_
    refine ey_goto (cd_124 rfl) rfl ?_
    cases e
    exact K (jup (jup lv 10 (jI q45.1)) 7 (jI (x7 + 1))) f0 f1 f2 f3 f4 f5 (jup_pi (lv := (jup lv 10 (jI q45.1))) (j := 6) (v := jI (x7 + 1)) (z := x6) f6) rfl
  · rw [if_neg q47] at e
    refine ey_yeq (cd_124 rfl) rfl rfl q47 ?_
    cases e
    exact K (jup lv 10 (jI q45.1)) rfl
set_option maxRecDepth 100000 in
theorem jk_124_b76 {L : Nat} {xs : Nat → Int32} {this : Nat} {x1 : Option Nat} {x2 : Option Nat} {x3 : Int} {x4 : Option Nat} {x5 : Int} {x6 : Int} {x7 : Int} {x8 : Int} {h : jH} {o : ((Int × jH) ⊕ (jH ⊕ (jH ⊕ (jH ⊕ (jH ⊕ ((Int × jH) ⊕ jH))))))} {r : mm_R} (e : jd_124_b76 this x1 x2 x3 x4 x5 x6 x7 x8 h = some o) (K : jsm (fun s => (∀ lv : jL, lv 0 = some (jR (some this)) → lv 1 = some (jR x1) → lv 2 = some (jR x2) → lv 3 = some (jI x3) → lv 4 = some (jR x4) → lv 5 = some (jI x5) → lv 6 = some (jI x6) → lv 7 = some (jI s.1) → ey (mm_xt L xs) 3 124 25 lv [] s.2 r)) (fun x => (jsm (fun y => (∀ lv : jL, lv 1 = some (jR x1) → ey (mm_xt L xs) 3 124 52 lv [] y r)) (fun z => (jsm (fun y => (∀ lv : jL, ey (mm_xt L xs) 3 124 74 lv [] y r)) (fun z => (jsm (fun y => (∀ lv : jL, lv 1 = some (jR x1) → ey (mm_xt L xs) 3 124 87 lv [] y r)) (fun z => (jsm (fun y => (∀ lv : jL, ey (mm_xt L xs) 3 124 119 lv [] y r)) (fun z => (jsm (fun y => (∀ lv : jL, lv 10 = some (jI y.1) → ey (mm_xt L xs) 3 124 143 lv [] y.2 r)) (fun z => (∀ lv : jL, ey (mm_xt L xs) 3 124 152 lv [] z r)) z)) z)) z)) z)) x)) o) : ∀ lv : jL, lv 0 = some (jR (some this)) → lv 1 = some (jR x1) → lv 2 = some (jR x2) → lv 3 = some (jI x3) → lv 4 = some (jR x4) → lv 5 = some (jI x5) → lv 6 = some (jI x6) → lv 7 = some (jI x7) → lv 8 = some (jI x8) → ey (mm_xt L xs) 3 124 76 lv [] h r := by
  intro lv f0 f1 f2 f3 f4 f5 f6 f7 f8
  unfold jd_124_b76 at e
  refine ey_aload_n (cd_124 rfl) f1 ?_
  obtain ⟨a29, e30, e⟩ := jbind e
  refine ey_rs (s0 := [jR x1]) (s1 := [jR (some a29)]) (by rw [e30]) ?_
  obtain ⟨u31, e32, e⟩ := jbind e
  obtain ⟨q33, e34, e⟩ := jbind e
  refine ey_cv (s0 := [jR (some a29)]) (s1 := []) (st' := [jI q33.1]) (cd_124 rfl) mt_124 mt_2 rfl rfl rfl (jck_s e32) rfl (jsml_s rfl) rfl (mm_Runs.up (d := 2) (by decide) (ok_2 e34)) ?_
  refine ey_istore (cd_124 rfl) mt_124 rfl ?_
  refine ey_iload (cd_124 rfl) rfl ?_
  by_cases q35 : 0 ≤ (jw q33.1)
  · rw [if_pos q35] at e
    refine ey_zge (cd_124 rfl) rfl rfl q35 ?_
    refine ey_iload (cd_124 rfl) rfl ?_
    refine ey_iload (cd_124 rfl) f6 ?_
    refine ey_aload_n (cd_124 rfl) f0 ?_
    obtain ⟨v36, e37, e⟩ := jbind e
    refine ey_getf_i (cd_124 rfl) mt_124 rfl rfl rfl e37 ?_
    refine ey_isub (cd_124 rfl) ?_
    by_cases q38 : (jw (x6 - v36)) ≤ (jw q33.1)
    · rw [if_pos q38] at e
      refine ey_cge (cd_124 rfl) rfl rfl rfl q38 ?_
      cases e
      exact K (jup lv 9 (jI q33.1)) 
    · rw [if_neg q38] at e
      refine ey_nge (cd_124 rfl) rfl rfl rfl q38 ?_
      refine ey_iload (cd_124 rfl) (jup_pi (lv := lv) (j := 8) (v := jI q33.1) (z := x8) f8) ?_
      refine ey_iconst (cd_124 rfl) ?_
      by_cases q39 : (jw x8) = 2
      · rw [if_pos q39] at e
        refine ey_nne (cd_124 rfl) rfl rfl (show jw 2 = 2 from by decide) (fun w => w q39) ?_
        refine ey_aload_n (cd_124 rfl) f0 ?_
        obtain ⟨v40, e41, e⟩ := jbind e
        refine ey_getf_i (cd_124 rfl) mt_124 rfl rfl rfl e41 ?_
        refine ey_iload (cd_124 rfl) f5 ?_
        by_cases q42 : (jw x5) ≤ (jw v40)
        · rw [if_pos q42] at e
          refine ey_cge (cd_124 rfl) rfl rfl rfl q42 ?_
          exact jk_124_b121 e K (jup lv 9 (jI q33.1)) f0 f1 f2 f3 f4 f5 f6 f7 (jup_pi (lv := lv) (j := 8) (v := jI q33.1) (z := x8) f8) rfl
        · rw [if_neg q42] at e
          refine ey_nge (cd_124 rfl) rfl rfl rfl q42 ?_
          cases e
          exact K (jup lv 9 (jI q33.1)) 
      · rw [if_neg q39] at e
        refine ey_cne (cd_124 rfl) rfl rfl (show jw 2 = 2 from by decide) q39 ?_
        exact jk_124_b121 e K (jup lv 9 (jI q33.1)) f0 f1 f2 f3 f4 f5 f6 f7 (jup_pi (lv := lv) (j := 8) (v := jI q33.1) (z := x8) f8) rfl
  · rw [if_neg q35] at e
    refine ey_yge (cd_124 rfl) rfl rfl q35 ?_
    cases e
    exact K (jup lv 9 (jI q33.1)) f1
set_option maxRecDepth 100000 in
theorem jk_124_s25 {L : Nat} {xs : Nat → Int32} {this : Nat} {x1 : Option Nat} {x2 : Option Nat} {x3 : Int} {x4 : Option Nat} {x5 : Int} {x6 : Int} {x7 : Int} {h : jH} {o : ((Int × jH) ⊕ (jH ⊕ (jH ⊕ (jH ⊕ (jH ⊕ ((Int × jH) ⊕ jH))))))} {r : mm_R} (e : jd_124_s25 this x1 x2 x3 x4 x5 x6 x7 h = some o) (K : jsm (fun s => (∀ lv : jL, lv 0 = some (jR (some this)) → lv 1 = some (jR x1) → lv 2 = some (jR x2) → lv 3 = some (jI x3) → lv 4 = some (jR x4) → lv 5 = some (jI x5) → lv 6 = some (jI x6) → lv 7 = some (jI s.1) → ey (mm_xt L xs) 3 124 25 lv [] s.2 r)) (fun x => (jsm (fun y => (∀ lv : jL, lv 1 = some (jR x1) → ey (mm_xt L xs) 3 124 52 lv [] y r)) (fun z => (jsm (fun y => (∀ lv : jL, ey (mm_xt L xs) 3 124 74 lv [] y r)) (fun z => (jsm (fun y => (∀ lv : jL, lv 1 = some (jR x1) → ey (mm_xt L xs) 3 124 87 lv [] y r)) (fun z => (jsm (fun y => (∀ lv : jL, ey (mm_xt L xs) 3 124 119 lv [] y r)) (fun z => (jsm (fun y => (∀ lv : jL, lv 10 = some (jI y.1) → ey (mm_xt L xs) 3 124 143 lv [] y.2 r)) (fun z => (∀ lv : jL, ey (mm_xt L xs) 3 124 152 lv [] z r)) z)) z)) z)) z)) x)) o) : ∀ lv : jL, lv 0 = some (jR (some this)) → lv 1 = some (jR x1) → lv 2 = some (jR x2) → lv 3 = some (jI x3) → lv 4 = some (jR x4) → lv 5 = some (jI x5) → lv 6 = some (jI x6) → lv 7 = some (jI x7) → ey (mm_xt L xs) 3 124 25 lv [] h r := by
  intro lv f0 f1 f2 f3 f4 f5 f6 f7
  unfold jd_124_s25 at e
  refine ey_iload (cd_124 rfl) f7 ?_
  refine ey_iload (cd_124 rfl) f6 ?_
  by_cases q15 : (jw x6) ≤ (jw x7)
  · rw [if_pos q15] at e
    refine ey_cge (cd_124 rfl) rfl rfl rfl q15 ?_
    cases e
    exact K lv 
  · rw [if_neg q15] at e
    refine ey_nge (cd_124 rfl) rfl rfl rfl q15 ?_
    refine ey_aload_n (cd_124 rfl) f0 ?_
    obtain ⟨v16, e17, e⟩ := jbind e
    refine ey_getf_i (cd_124 rfl) mt_124 rfl rfl rfl e17 ?_
    refine ey_iload (cd_124 rfl) f6 ?_
    by_cases q18 : (jw x6) ≤ (jw v16)
    · rw [if_pos q18] at e
      refine ey_cge (cd_124 rfl) rfl rfl rfl q18 ?_
      cases e
      exact K lv 
    · rw [if_neg q18] at e
      refine ey_nge (cd_124 rfl) rfl rfl rfl q18 ?_
      refine ey_aload_n (cd_124 rfl) f1 ?_
      obtain ⟨a19, e20, e⟩ := jbind e
      refine ey_rs (s0 := [jR x1]) (s1 := [jR (some a19)]) (by rw [e20]) ?_
      obtain ⟨u21, e22, e⟩ := jbind e
      obtain ⟨q23, e24, e⟩ := jbind e
      refine ey_cv (s0 := [jR (some a19)]) (s1 := []) (st' := [jI q23.1]) (cd_124 rfl) mt_124 mt_2 rfl rfl rfl (jck_s e22) rfl (jsml_s rfl) rfl (mm_Runs.up (d := 2) (by decide) (ok_2 e24)) ?_
      refine ey_istore (cd_124 rfl) mt_124 rfl ?_
      refine ey_iload (cd_124 rfl) rfl ?_
      by_cases q25 : 0 ≤ (jw q23.1)
      · rw [if_pos q25] at e
        refine ey_zge (cd_124 rfl) rfl rfl q25 ?_
        refine ey_iload (cd_124 rfl) rfl ?_
        refine ey_iconst (cd_124 rfl) ?_
        by_cases q26 : 3 < (jw q23.1)
        · rw [if_pos q26] at e
          refine ey_cgt (cd_124 rfl) rfl rfl (show jw 3 = 3 from by decide) q26 ?_
          cases e
          exact K (jup lv 8 (jI q23.1)) 
        · rw [if_neg q26] at e
          refine ey_ngt (cd_124 rfl) rfl rfl (show jw 3 = 3 from by decide) q26 ?_
          refine ey_iload (cd_124 rfl) rfl ?_
          refine ey_iconst (cd_124 rfl) ?_
          by_cases q27 : (jw q23.1) = 1
          · rw [if_pos q27] at e
            refine ey_nne (cd_124 rfl) rfl rfl (show jw 1 = 1 from by decide) (fun w => w q27) ?_
            refine ey_aload (cd_124 rfl) f4 ?_
            by_cases q28 : x4 = none
            · rw [if_pos q28] at e
              refine ey_rs (s0 := [jR x4]) (s1 := [jR none]) (by rw [q28]) ?_
              refine ey_ifnonnull_n (cd_124 rfl) rfl ?_
              cases e
              exact K (jup lv 8 (jI q23.1)) 
            · rw [if_neg q28] at e
              obtain ⟨w48, w48e⟩ := Option.ne_none_iff_exists'.mp q28
              refine ey_rs (s0 := [jR x4]) (s1 := [jR (some w48)]) (by rw [w48e]) ?_
              refine ey_ifnonnull_s (cd_124 rfl) rfl ?_
              exact jk_124_b76 e K (jup lv 8 (jI q23.1)) f0 f1 f2 f3 f4 f5 f6 (jup_pi (lv := lv) (j := 7) (v := jI q23.1) (z := x7) f7) rfl
          · rw [if_neg q27] at e
            refine ey_cne (cd_124 rfl) rfl rfl (show jw 1 = 1 from by decide) q27 ?_
            exact jk_124_b76 e K (jup lv 8 (jI q23.1)) f0 f1 f2 f3 f4 f5 f6 (jup_pi (lv := lv) (j := 7) (v := jI q23.1) (z := x7) f7) rfl
      · rw [if_neg q25] at e
        refine ey_yge (cd_124 rfl) rfl rfl q25 ?_
        cases e
        exact K (jup lv 8 (jI q23.1)) f1
theorem jk_124_l25 {L : Nat} {xs : Nat → Int32} {this : Nat} {x1 : Option Nat} {x2 : Option Nat} {x3 : Int} {x4 : Option Nat} {x5 : Int} {x6 : Int} {x7 : Int} {h : jH} {x : (jH ⊕ (jH ⊕ (jH ⊕ (jH ⊕ ((Int × jH) ⊕ jH)))))} {r : mm_R} (e : jd_124_l25 this x1 x2 x3 x4 x5 x6 x7 h = some x) (K : (jsm (fun y => (∀ lv : jL, lv 1 = some (jR x1) → ey (mm_xt L xs) 3 124 52 lv [] y r)) (fun z => (jsm (fun y => (∀ lv : jL, ey (mm_xt L xs) 3 124 74 lv [] y r)) (fun z => (jsm (fun y => (∀ lv : jL, lv 1 = some (jR x1) → ey (mm_xt L xs) 3 124 87 lv [] y r)) (fun z => (jsm (fun y => (∀ lv : jL, ey (mm_xt L xs) 3 124 119 lv [] y r)) (fun z => (jsm (fun y => (∀ lv : jL, lv 10 = some (jI y.1) → ey (mm_xt L xs) 3 124 143 lv [] y.2 r)) (fun z => (∀ lv : jL, ey (mm_xt L xs) 3 124 152 lv [] z r)) z)) z)) z)) z)) x)) : ∀ lv : jL, lv 0 = some (jR (some this)) → lv 1 = some (jR x1) → lv 2 = some (jR x2) → lv 3 = some (jI x3) → lv 4 = some (jR x4) → lv 5 = some (jI x5) → lv 6 = some (jI x6) → lv 7 = some (jI x7) → ey (mm_xt L xs) 3 124 25 lv [] h r := by
  unfold jd_124_l25 at e
  exact jlp_ok2 (P := fun s => ∀ lv : jL, lv 0 = some (jR (some this)) → lv 1 = some (jR x1) → lv 2 = some (jR x2) → lv 3 = some (jI x3) → lv 4 = some (jR x4) → lv 5 = some (jI x5) → lv 6 = some (jI x6) → lv 7 = some (jI s.1) → ey (mm_xt L xs) 3 124 25 lv [] s.2 r) (Q := fun x => (jsm (fun y => (∀ lv : jL, lv 1 = some (jR x1) → ey (mm_xt L xs) 3 124 52 lv [] y r)) (fun z => (jsm (fun y => (∀ lv : jL, ey (mm_xt L xs) 3 124 74 lv [] y r)) (fun z => (jsm (fun y => (∀ lv : jL, lv 1 = some (jR x1) → ey (mm_xt L xs) 3 124 87 lv [] y r)) (fun z => (jsm (fun y => (∀ lv : jL, ey (mm_xt L xs) 3 124 119 lv [] y r)) (fun z => (jsm (fun y => (∀ lv : jL, lv 10 = some (jI y.1) → ey (mm_xt L xs) 3 124 143 lv [] y.2 r)) (fun z => (∀ lv : jL, ey (mm_xt L xs) 3 124 152 lv [] z r)) z)) z)) z)) z)) x)) (fun s q hq hk => jk_124_s25 hq hk) jfu _ x e K
set_option maxRecDepth 100000 in
theorem ok_124 {L : Nat} {xs : Nat → Int32} {this : Nat} {p0 : Option Nat} {p1 : Option Nat} {p2 : Int} {p3 : Option Nat} {h : jH} {o : (Int × jH)} (e : jd_124 this p0 p1 p2 p3 h = some o) : mm_Runs (mm_xt L xs) 4 124 ([jR (some this), jR p0, jR p1, jI p2, jR p3].map jcv) (jaH h) (.inl (some (jcv (jI o.1)), jaH o.2)) := by
  refine ey_run0 _ mt_124 (jsl_s rfl) ?_
  unfold jd_124 at e
  refine ey_aload_n (cd_124 rfl) rfl ?_
  refine ey_iload_n (cd_124 rfl) rfl ?_
  obtain ⟨a1, e2, e⟩ := jbind e
  refine ey_rs (s0 := [jI p2, jR p1]) (s1 := [jI p2, jR (some a1)]) (by rw [e2]) ?_
  obtain ⟨u3, e4, e⟩ := jbind e
  obtain ⟨v5, e6, e⟩ := jbind e
  refine ey_cv (s0 := [jI p2, jR (some a1)]) (s1 := []) (st' := [jI v5]) (cd_124 rfl) mt_124 mt_96 rfl rfl rfl (jck_s e4) rfl (jsml_s rfl) rfl (mm_Runs.up (d := 1) (by decide) (ok_96 e6)) ?_
  refine ey_istore (cd_124 rfl) mt_124 rfl ?_
  refine ey_iload (cd_124 rfl) rfl ?_
  refine ey_aload_n (cd_124 rfl) rfl ?_
  refine ey_iload_n (cd_124 rfl) rfl ?_
  obtain ⟨a7, e8, e⟩ := jbind e
  refine ey_rs (s0 := [jI p2, jR p1, jI v5]) (s1 := [jI p2, jR (some a7), jI v5]) (by rw [e8]) ?_
  obtain ⟨u9, e10, e⟩ := jbind e
  obtain ⟨v11, e12, e⟩ := jbind e
  refine ey_cv (s0 := [jI p2, jR (some a7), jI v5]) (s1 := [jI v5]) (st' := [jI v11, jI v5]) (cd_124 rfl) mt_124 mt_97 rfl rfl rfl (jck_s e10) rfl (jsml_s rfl) rfl (mm_Runs.up (d := 1) (by decide) (ok_97 e12)) ?_
  refine ey_imul (cd_124 rfl) ?_
  refine ey_istore (cd_124 rfl) mt_124 rfl ?_
  refine ey_aload_n (cd_124 rfl) rfl ?_
  refine ey_iconst (cd_124 rfl) ?_
  obtain ⟨h13, e14, e⟩ := jbind e
  refine ey_putf_i (cd_124 rfl) mt_124 rfl rfl rfl e14 ?_
  refine ey_iconst (cd_124 rfl) ?_
  refine ey_istore (cd_124 rfl) mt_124 rfl ?_
  obtain ⟨x49, e50, e⟩ := jbind e
  refine jk_124_l25 e50 ?_ (jup (jup (jup (jlf (jla 0 [jR (some this), jR p0, jR p1, jI p2, jR p3])) 5 (jI v5)) 6 (jI (v5 * v11))) 7 (jI 0)) rfl rfl rfl rfl (jup_o rfl (jup_o rfl (jup_pr (lv := (jlf (jla 0 [jR (some this), jR p0, jR p1, jI p2, jR p3]))) (j := 4) (v := jI v5) (z := p3) rfl))) (jup_o rfl (jup_pi (lv := (jup (jlf (jla 0 [jR (some this), jR p0, jR p1, jI p2, jR p3])) 5 (jI v5))) (j := 5) (v := jI (v5 * v11)) (z := v5) rfl)) (jup_pi (lv := (jup (jup (jlf (jla 0 [jR (some this), jR p0, jR p1, jI p2, jR p3])) 5 (jI v5)) 6 (jI (v5 * v11)))) (j := 6) (v := jI 0) (z := (v5 * v11)) rfl) rfl
  cases x49 with
  | inl y51 =>
    replace e : (((p0).bind fun a53 => ((jgi y51 a53 0 3).bind fun v55 => some (v55, y51))) : Option (Int × jH)) = some o := e
    intro lv g1
    refine ey_aload_n (cd_124 rfl) g1 ?_
    obtain ⟨a53, e54, e⟩ := jbind e
    refine ey_rs (s0 := [jR p0]) (s1 := [jR (some a53)]) (by rw [e54]) ?_
    obtain ⟨v55, e56, e⟩ := jbind e
    refine ey_getf_i (cd_124 rfl) mt_124 rfl rfl rfl e56 ?_
    cases e
    exact ey_reti (cd_124 rfl) mt_124 rfl
  | inr y52 =>
    replace e : (jse y52 (fun y57 => some (2, y57)) (fun y58 => jse y58 (fun y59 => ((p0).bind fun a61 => ((jgi y59 a61 0 3).bind fun v63 => some (v63, y59)))) (fun y60 => jse y60 (fun y65 => some (4, y65)) (fun y66 => jse y66 (fun y67 => some (y67.1, y67.2)) (fun y68 => some (0, y68))))) : Option (Int × jH)) = some o := e
    cases y52 with
    | inl y57 =>
      replace e : (some (2, y57) : Option (Int × jH)) = some o := e
      intro lv 
      refine ey_iconst (cd_124 rfl) ?_
      cases e
      exact ey_reti (cd_124 rfl) mt_124 rfl
    | inr y58 =>
      replace e : (jse y58 (fun y59 => ((p0).bind fun a61 => ((jgi y59 a61 0 3).bind fun v63 => some (v63, y59)))) (fun y60 => jse y60 (fun y65 => some (4, y65)) (fun y66 => jse y66 (fun y67 => some (y67.1, y67.2)) (fun y68 => some (0, y68)))) : Option (Int × jH)) = some o := e
      cases y58 with
      | inl y59 =>
        replace e : (((p0).bind fun a61 => ((jgi y59 a61 0 3).bind fun v63 => some (v63, y59))) : Option (Int × jH)) = some o := e
        intro lv g1
        refine ey_aload_n (cd_124 rfl) g1 ?_
        obtain ⟨a61, e62, e⟩ := jbind e
        refine ey_rs (s0 := [jR p0]) (s1 := [jR (some a61)]) (by rw [e62]) ?_
        obtain ⟨v63, e64, e⟩ := jbind e
        refine ey_getf_i (cd_124 rfl) mt_124 rfl rfl rfl e64 ?_
        cases e
        exact ey_reti (cd_124 rfl) mt_124 rfl
      | inr y60 =>
        replace e : (jse y60 (fun y65 => some (4, y65)) (fun y66 => jse y66 (fun y67 => some (y67.1, y67.2)) (fun y68 => some (0, y68))) : Option (Int × jH)) = some o := e
        cases y60 with
        | inl y65 =>
          replace e : (some (4, y65) : Option (Int × jH)) = some o := e
          intro lv 
          refine ey_iconst (cd_124 rfl) ?_
          cases e
          exact ey_reti (cd_124 rfl) mt_124 rfl
        | inr y66 =>
          replace e : (jse y66 (fun y67 => some (y67.1, y67.2)) (fun y68 => some (0, y68)) : Option (Int × jH)) = some o := e
          cases y66 with
          | inl y67 =>
            replace e : (some (y67.1, y67.2) : Option (Int × jH)) = some o := e
            intro lv g10
            refine ey_iload (cd_124 rfl) g10 ?_
            cases e
            exact ey_reti (cd_124 rfl) mt_124 rfl
          | inr y68 =>
            replace e : (some (0, y68) : Option (Int × jH)) = some o := e
            intro lv 
            refine ey_iconst (cd_124 rfl) ?_
            cases e
            exact ey_reti (cd_124 rfl) mt_124 rfl
theorem cd_122 {pc : Nat} {i : Instr × Nat} (h : mm_lk mm_c122 pc = some i) : mm_cd 122 pc = some i := h
theorem mt_122 : mm_MT 122 = (8, 5, some .int, 1, 0, []) := rfl
set_option maxRecDepth 100000 in
theorem jk_122_s25 {L : Nat} {xs : Nat → Int32} {this : Nat} {x1 : Option Nat} {x2 : Option Nat} {x3 : Int} {h : jH} {o : ((Int × jH) ⊕ ((Int × jH) ⊕ jH))} {r : mm_R} (e : jd_122_s25 this x1 x2 x3 h = some o) (K : jsm (fun s => (∀ lv : jL, lv 0 = some (jR (some this)) → lv 1 = some (jR x1) → lv 2 = some (jR x2) → lv 3 = some (jI s.1) → ey (mm_xt L xs) 4 122 25 lv [] s.2 r)) (fun x => (jsm (fun y => (∀ lv : jL, lv 4 = some (jI y.1) → ey (mm_xt L xs) 4 122 68 lv [] y.2 r)) (fun z => (∀ lv : jL, ey (mm_xt L xs) 4 122 77 lv [] z r)) x)) o) : ∀ lv : jL, lv 0 = some (jR (some this)) → lv 1 = some (jR x1) → lv 2 = some (jR x2) → lv 3 = some (jI x3) → ey (mm_xt L xs) 4 122 25 lv [] h r := by
  intro lv f0 f1 f2 f3
  unfold jd_122_s25 at e
  refine ey_iload_n (cd_122 rfl) f3 ?_
  refine ey_iconst (cd_122 rfl) ?_
  by_cases q14 : 3 ≤ (jw x3)
  · rw [if_pos q14] at e
    refine ey_cge (cd_122 rfl) rfl rfl (show jw 3 = 3 from by decide) q14 ?_
    cases e
    exact K lv 
  · rw [if_neg q14] at e
    refine ey_nge (cd_122 rfl) rfl rfl (show jw 3 = 3 from by decide) q14 ?_
    refine ey_aload_n (cd_122 rfl) f0 ?_
    obtain ⟨r15, e16, e⟩ := jbind e
    refine ey_getf_r (cd_122 rfl) mt_122 rfl rfl rfl e16 ?_
    refine ey_aload_n (cd_122 rfl) f0 ?_
    obtain ⟨r17, e18, e⟩ := jbind e
    refine ey_getf_r (cd_122 rfl) mt_122 rfl rfl rfl e18 ?_
    refine ey_aload_n (cd_122 rfl) f1 ?_
    refine ey_iload_n (cd_122 rfl) f3 ?_
    refine ey_aload_n (cd_122 rfl) f2 ?_
    obtain ⟨a19, e20, e⟩ := jbind e
    refine ey_rs (s0 := [jR x2, jI x3, jR x1, jR r17, jR r15]) (s1 := [jR x2, jI x3, jR x1, jR r17, jR (some a19)]) (by rw [e20]) ?_
    obtain ⟨u21, e22, e⟩ := jbind e
    obtain ⟨q23, e24, e⟩ := jbind e
    refine ey_cv (s0 := [jR x2, jI x3, jR x1, jR r17, jR (some a19)]) (s1 := []) (st' := [jI q23.1]) (cd_122 rfl) mt_122 mt_124 rfl rfl rfl (jck_s e22) rfl (jsml_s rfl) rfl (ok_124 e24) ?_
    refine ey_istore (cd_122 rfl) mt_122 rfl ?_
    refine ey_aload_n (cd_122 rfl) f0 ?_
    refine ey_aload_n (cd_122 rfl) f1 ?_
    refine ey_iload_n (cd_122 rfl) (jup_pi (lv := lv) (j := 3) (v := jI q23.1) (z := x3) f3) ?_
    obtain ⟨a25, e26, e⟩ := jbind e
    refine ey_rs (s0 := [jI x3, jR x1, jR (some this)]) (s1 := [jI x3, jR (some a25), jR (some this)]) (by rw [e26]) ?_
    obtain ⟨u27, e28, e⟩ := jbind e
    obtain ⟨v29, e30, e⟩ := jbind e
    refine ey_cv (s0 := [jI x3, jR (some a25), jR (some this)]) (s1 := [jR (some this)]) (st' := [jI v29, jR (some this)]) (cd_122 rfl) mt_122 mt_98 rfl rfl rfl (jck_s e28) rfl (jsml_s rfl) rfl (mm_Runs.up (d := 1) (by decide) (ok_98 e30)) ?_
    refine ey_aload_n (cd_122 rfl) f0 ?_
    obtain ⟨r31, e32, e⟩ := jbind e
    refine ey_getf_r (cd_122 rfl) mt_122 rfl rfl rfl e32 ?_
    obtain ⟨a33, e34, e⟩ := jbind e
    refine ey_rs (s0 := [jR r31, jI v29, jR (some this)]) (s1 := [jR (some a33), jI v29, jR (some this)]) (by rw [e34]) ?_
    obtain ⟨v35, e36, e⟩ := jbind e
    refine ey_getf_i (cd_122 rfl) mt_122 rfl rfl rfl e36 ?_
    refine ey_iadd (cd_122 rfl) ?_
    obtain ⟨h37, e38, e⟩ := jbind e
    refine ey_putf_i (cd_122 rfl) mt_122 rfl rfl rfl e38 ?_
    refine ey_iload (cd_122 rfl) rfl ?_
    by_cases q39 : (jw q23.1) = 0
    · rw [if_pos q39] at e
      refine ey_zeq (cd_122 rfl) rfl rfl q39 ?_
      refine ey_iinc (cd_122 rfl) mt_122 rfl (jup_pi (lv := lv) (j := 3) (v := jI q23.1) (z := x3) f3) ?_
      refine ey_goto (cd_122 rfl) rfl ?_
      cases e
      exact K (jup (jup lv 4 (jI q23.1)) 3 (jI (x3 + 1))) f0 f1 (jup_pr (lv := (jup lv 4 (jI q23.1))) (j := 2) (v := jI (x3 + 1)) (z := x2) f2) rfl
    · rw [if_neg q39] at e
      refine ey_yeq (cd_122 rfl) rfl rfl q39 ?_
      cases e
      exact K (jup lv 4 (jI q23.1)) rfl
theorem jk_122_l25 {L : Nat} {xs : Nat → Int32} {this : Nat} {x1 : Option Nat} {x2 : Option Nat} {x3 : Int} {h : jH} {x : ((Int × jH) ⊕ jH)} {r : mm_R} (e : jd_122_l25 this x1 x2 x3 h = some x) (K : (jsm (fun y => (∀ lv : jL, lv 4 = some (jI y.1) → ey (mm_xt L xs) 4 122 68 lv [] y.2 r)) (fun z => (∀ lv : jL, ey (mm_xt L xs) 4 122 77 lv [] z r)) x)) : ∀ lv : jL, lv 0 = some (jR (some this)) → lv 1 = some (jR x1) → lv 2 = some (jR x2) → lv 3 = some (jI x3) → ey (mm_xt L xs) 4 122 25 lv [] h r := by
  unfold jd_122_l25 at e
  exact jlp_ok2 (P := fun s => ∀ lv : jL, lv 0 = some (jR (some this)) → lv 1 = some (jR x1) → lv 2 = some (jR x2) → lv 3 = some (jI s.1) → ey (mm_xt L xs) 4 122 25 lv [] s.2 r) (Q := fun x => (jsm (fun y => (∀ lv : jL, lv 4 = some (jI y.1) → ey (mm_xt L xs) 4 122 68 lv [] y.2 r)) (fun z => (∀ lv : jL, ey (mm_xt L xs) 4 122 77 lv [] z r)) x)) (fun s q hq hk => jk_122_s25 hq hk) jfu _ x e K
set_option maxRecDepth 100000 in
theorem jk_122_b22 {L : Nat} {xs : Nat → Int32} {this : Nat} {x1 : Option Nat} {y0 : Option Nat} {h : jH} {o : (Int × jH)} (e : jd_122_b22 this x1 y0 h = some o) : ∀ lv : jL, lv 0 = some (jR (some this)) → lv 1 = some (jR x1) → ey (mm_xt L xs) 4 122 22 lv [jR y0] h (.inl (some (jcv (jI o.1)), jaH o.2)) := by
  intro lv f0 f1
  unfold jd_122_b22 at e
  refine ey_astore_n (cd_122 rfl) mt_122 rfl ?_
  refine ey_iconst (cd_122 rfl) ?_
  refine ey_istore_n (cd_122 rfl) mt_122 rfl ?_
  obtain ⟨x40, e41, e⟩ := jbind e
  refine jk_122_l25 e41 ?_ (jup (jup lv 2 (jR y0)) 3 (jI 0)) f0 (jup_o rfl (jup_pr (lv := lv) (j := 1) (v := jR y0) (z := x1) f1)) (jup_pr (lv := (jup lv 2 (jR y0))) (j := 2) (v := jI 0) (z := y0) rfl) rfl
  cases x40 with
  | inl y42 =>
    replace e : (some (y42.1, y42.2) : Option (Int × jH)) = some o := e
    intro lv g4
    refine ey_iload (cd_122 rfl) g4 ?_
    cases e
    exact ey_reti (cd_122 rfl) mt_122 rfl
  | inr y43 =>
    replace e : (some (0, y43) : Option (Int × jH)) = some o := e
    intro lv 
    refine ey_iconst (cd_122 rfl) ?_
    cases e
    exact ey_reti (cd_122 rfl) mt_122 rfl
set_option maxRecDepth 100000 in
theorem ok_122 {L : Nat} {xs : Nat → Int32} {this : Nat} {p0 : Option Nat} {h : jH} {o : (Int × jH)} (e : jd_122 this p0 h = some o) : mm_Runs (mm_xt L xs) 5 122 ([jR (some this), jR p0].map jcv) (jaH h) (.inl (some (jcv (jI o.1)), jaH o.2)) := by
  refine ey_run0 _ mt_122 (jsl_s rfl) ?_
  unfold jd_122 at e
  refine ey_aload_n (cd_122 rfl) rfl ?_
  obtain ⟨r1, e2, e⟩ := jbind e
  refine ey_getf_r (cd_122 rfl) mt_122 rfl rfl rfl e2 ?_
  obtain ⟨a3, e4, e⟩ := jbind e
  refine ey_rs (s0 := [jR r1]) (s1 := [jR (some a3)]) (by rw [e4]) ?_
  obtain ⟨v5, e6, e⟩ := jbind e
  refine ey_getf_i (cd_122 rfl) mt_122 rfl rfl rfl e6 ?_
  refine ey_iconst (cd_122 rfl) ?_
  by_cases q7 : (jw v5) = 1
  · rw [if_pos q7] at e
    refine ey_nne (cd_122 rfl) rfl rfl (show jw 1 = 1 from by decide) (fun w => w q7) ?_
    refine ey_aload_n (cd_122 rfl) rfl ?_
    obtain ⟨r8, e9, e⟩ := jbind e
    refine ey_getf_r (cd_122 rfl) mt_122 rfl rfl rfl e9 ?_
    obtain ⟨a10, e11, e⟩ := jbind e
    refine ey_rs (s0 := [jR r8]) (s1 := [jR (some a10)]) (by rw [e11]) ?_
    obtain ⟨r12, e13, e⟩ := jbind e
    refine ey_getf_r (cd_122 rfl) mt_122 rfl rfl rfl e13 ?_
    refine ey_goto (cd_122 rfl) rfl ?_
    exact jk_122_b22 e (jlf (jla 0 [jR (some this), jR p0])) rfl rfl
  · rw [if_neg q7] at e
    refine ey_cne (cd_122 rfl) rfl rfl (show jw 1 = 1 from by decide) q7 ?_
    refine ey_null (cd_122 rfl) ?_
    exact jk_122_b22 e (jlf (jla 0 [jR (some this), jR p0])) rfl rfl
theorem cd_115 {pc : Nat} {i : Instr × Nat} (h : mm_lk mm_c115 pc = some i) : mm_cd 115 pc = some i := h
theorem mt_115 : mm_MT 115 = (8, 8, none, 5, 0, []) := rfl
set_option maxRecDepth 100000 in
theorem jk_115_b231 {L : Nat} {xs : Nat → Int32} {this : Nat}  {h : jH} {o : jH} (e : jd_115_b231 this  h = some o) : ∀ lv : jL, ey (mm_xt L xs) 5 115 231 lv [] h (.inl (none, jaH o)) := by
  intro lv 
  unfold jd_115_b231 at e
  cases e
  exact ey_retv (cd_115 rfl) mt_115 rfl
set_option maxRecDepth 100000 in
theorem jk_115_b228 {L : Nat} {xs : Nat → Int32} {this : Nat} {y0 : Option Nat} {y1 : Int} {y2 : Option Nat} {h : jH} {o : jH} (e : jd_115_b228 this y0 y1 y2 h = some o) : ∀ lv : jL, ey (mm_xt L xs) 5 115 228 lv [jR y0, jI y1, jR y2] h (.inl (none, jaH o)) := by
  intro lv 
  unfold jd_115_b228 at e
  obtain ⟨h94, e95, e⟩ := jbind e
  refine ey_cs (s0 := [jR y0, jI y1, jR y2]) (s1 := []) (st' := []) (cd_115 rfl) mt_115 mt_116 rfl (by decide) rfl rfl (jsml_s rfl) rfl (mm_Runs.up (d := 3) (by decide) (ok_116 e95)) ?_
  exact jk_115_b231 e lv 
set_option maxRecDepth 100000 in
theorem jk_115_b208 {L : Nat} {xs : Nat → Int32} {this : Nat} {x2 : Option Nat} {x3 : Int} {y0 : Int} {h : jH} {o : jH} (e : jd_115_b208 this x2 x3 y0 h = some o) : ∀ lv : jL, lv 0 = some (jR (some this)) → lv 2 = some (jR x2) → lv 3 = some (jI x3) → ey (mm_xt L xs) 5 115 208 lv [jI y0] h (.inl (none, jaH o)) := by
  intro lv f0 f2 f3
  unfold jd_115_b208 at e
  refine ey_istore (cd_115 rfl) mt_115 rfl ?_
  refine ey_aload_n (cd_115 rfl) f2 ?_
  refine ey_iload_n (cd_115 rfl) f3 ?_
  refine ey_iload (cd_115 rfl) rfl ?_
  by_cases q93 : (jw y0) = 0
  · rw [if_pos q93] at e
    refine ey_zeq (cd_115 rfl) rfl rfl q93 ?_
    refine ey_null (cd_115 rfl) ?_
    exact jk_115_b228 e (jup lv 7 (jI y0)) 
  · rw [if_neg q93] at e
    refine ey_yeq (cd_115 rfl) rfl rfl q93 ?_
    refine ey_aload_n (cd_115 rfl) f0 ?_
    obtain ⟨r96, e97, e⟩ := jbind e
    refine ey_getf_r (cd_115 rfl) mt_115 rfl rfl rfl e97 ?_
    obtain ⟨a98, e99, e⟩ := jbind e
    refine ey_rs (s0 := [jR r96, jI x3, jR x2]) (s1 := [jR (some a98), jI x3, jR x2]) (by rw [e99]) ?_
    obtain ⟨r100, e101, e⟩ := jbind e
    refine ey_getf_r (cd_115 rfl) mt_115 rfl rfl rfl e101 ?_
    refine ey_goto (cd_115 rfl) rfl ?_
    exact jk_115_b228 e (jup lv 7 (jI y0)) 
set_option maxRecDepth 100000 in
theorem jk_115_b171 {L : Nat} {xs : Nat → Int32} {this : Nat} {x1 : Option Nat} {x2 : Option Nat} {x3 : Int} {x6 : Int} {y0 : Int} {y1 : Int} {y2 : Option Nat} {h : jH} {o : jH} (e : jd_115_b171 this x1 x2 x3 x6 y0 y1 y2 h = some o) : ∀ lv : jL, lv 0 = some (jR (some this)) → lv 1 = some (jR x1) → lv 2 = some (jR x2) → lv 3 = some (jI x3) → lv 6 = some (jI x6) → ey (mm_xt L xs) 5 115 171 lv [jI y0, jI y1, jR y2] h (.inl (none, jaH o)) := by
  intro lv f0 f1 f2 f3 f6
  unfold jd_115_b171 at e
  obtain ⟨a83, e84, e⟩ := jbind e
  refine ey_rs (s0 := [jI y0, jI y1, jR y2]) (s1 := [jI y0, jI y1, jR (some a83)]) (by rw [e84]) ?_
  obtain ⟨h85, e86, e⟩ := jbind e
  refine ey_iast (cd_115 rfl) e86 ?_
  refine ey_iload (cd_115 rfl) f6 ?_
  by_cases q87 : (jw x6) = 0
  · rw [if_pos q87] at e
    refine ey_zeq (cd_115 rfl) rfl rfl q87 ?_
    exact jk_115_b231 e lv 
  · rw [if_neg q87] at e
    refine ey_yeq (cd_115 rfl) rfl rfl q87 ?_
    refine ey_aload_n (cd_115 rfl) f1 ?_
    obtain ⟨a88, e89, e⟩ := jbind e
    refine ey_rs (s0 := [jR x1]) (s1 := [jR (some a88)]) (by rw [e89]) ?_
    obtain ⟨v90, e91, e⟩ := jbind e
    refine ey_getf_i (cd_115 rfl) mt_115 rfl rfl rfl e91 ?_
    by_cases q92 : (jw v90) = 0
    · rw [if_pos q92] at e
      refine ey_zeq (cd_115 rfl) rfl rfl q92 ?_
      refine ey_iconst (cd_115 rfl) ?_
      refine ey_goto (cd_115 rfl) rfl ?_
      exact jk_115_b208 e lv f0 f2 f3
    · rw [if_neg q92] at e
      refine ey_yeq (cd_115 rfl) rfl rfl q92 ?_
      refine ey_aload_n (cd_115 rfl) f1 ?_
      obtain ⟨a102, e103, e⟩ := jbind e
      refine ey_rs (s0 := [jR x1]) (s1 := [jR (some a102)]) (by rw [e103]) ?_
      obtain ⟨v104, e105, e⟩ := jbind e
      refine ey_getf_i (cd_115 rfl) mt_115 rfl rfl rfl e105 ?_
      refine ey_iconst (cd_115 rfl) ?_
      by_cases q106 : (jw v104) = 2
      · rw [if_pos q106] at e
        refine ey_nne (cd_115 rfl) rfl rfl (show jw 2 = 2 from by decide) (fun w => w q106) ?_
        refine ey_aload_n (cd_115 rfl) f0 ?_
        obtain ⟨r107, e108, e⟩ := jbind e
        refine ey_getf_r (cd_115 rfl) mt_115 rfl rfl rfl e108 ?_
        obtain ⟨a109, e110, e⟩ := jbind e
        refine ey_rs (s0 := [jR r107]) (s1 := [jR (some a109)]) (by rw [e110]) ?_
        obtain ⟨v111, e112, e⟩ := jbind e
        refine ey_getf_i (cd_115 rfl) mt_115 rfl rfl rfl e112 ?_
        refine ey_iconst (cd_115 rfl) ?_
        have K113 : ∀ lv : jL, lv 0 = some (jR (some this)) → lv 2 = some (jR x2) → lv 3 = some (jI x3) → ey (mm_xt L xs) 5 115 208 lv [jI (if (jw v111) = 1 then 1 else 0)] h85 (.inl (none, jaH o)) := by
          intro lv g0 g2 g3
          exact jk_115_b208 e lv g0 g2 g3
        by_cases q114 : (jw v111) = 1
        · refine ey_nne (cd_115 rfl) rfl rfl (show jw 1 = 1 from by decide) (fun w => w q114) ?_
          refine ey_iconst (cd_115 rfl) ?_
          refine ey_goto (cd_115 rfl) rfl ?_
          exact ey_rs (s0 := [jI 1]) (s1 := [jI (if (jw v111) = 1 then 1 else 0)]) (by rw [show ((if (jw v111) = 1 then 1 else 0) : Int) = 1 from (if_pos q114)]) (K113 lv f0 f2 f3)
        · refine ey_cne (cd_115 rfl) rfl rfl (show jw 1 = 1 from by decide) q114 ?_
          refine ey_iconst (cd_115 rfl) ?_
          exact ey_rs (s0 := [jI 0]) (s1 := [jI (if (jw v111) = 1 then 1 else 0)]) (by rw [show ((if (jw v111) = 1 then 1 else 0) : Int) = 0 from (if_neg q114)]) (K113 lv f0 f2 f3)
      · rw [if_neg q106] at e
        refine ey_cne (cd_115 rfl) rfl rfl (show jw 2 = 2 from by decide) q106 ?_
        refine ey_iconst (cd_115 rfl) ?_
        exact jk_115_b208 e lv f0 f2 f3
set_option maxRecDepth 100000 in
theorem jk_115_b145 {L : Nat} {xs : Nat → Int32} {this : Nat} {x1 : Option Nat} {x2 : Option Nat} {x3 : Int} {x6 : Int} {h : jH} {o : jH} (e : jd_115_b145 this x1 x2 x3 x6 h = some o) : ∀ lv : jL, lv 0 = some (jR (some this)) → lv 1 = some (jR x1) → lv 2 = some (jR x2) → lv 3 = some (jI x3) → lv 6 = some (jI x6) → ey (mm_xt L xs) 5 115 145 lv [] h (.inl (none, jaH o)) := by
  intro lv f0 f1 f2 f3 f6
  unfold jd_115_b145 at e
  refine ey_aload_n (cd_115 rfl) f2 ?_
  obtain ⟨a70, e71, e⟩ := jbind e
  refine ey_rs (s0 := [jR x2]) (s1 := [jR (some a70)]) (by rw [e71]) ?_
  obtain ⟨r72, e73, e⟩ := jbind e
  refine ey_getf_r (cd_115 rfl) mt_115 rfl rfl rfl e73 ?_
  refine ey_iload_n (cd_115 rfl) f3 ?_
  refine ey_iload (cd_115 rfl) f6 ?_
  obtain ⟨a74, e75, e⟩ := jbind e
  refine ey_rs (s0 := [jI x6, jI x3, jR r72]) (s1 := [jI x6, jI x3, jR (some a74)]) (by rw [e75]) ?_
  obtain ⟨h76, e77, e⟩ := jbind e
  refine ey_iast (cd_115 rfl) e77 ?_
  refine ey_aload_n (cd_115 rfl) f2 ?_
  obtain ⟨a78, e79, e⟩ := jbind e
  refine ey_rs (s0 := [jR x2]) (s1 := [jR (some a78)]) (by rw [e79]) ?_
  obtain ⟨r80, e81, e⟩ := jbind e
  refine ey_getf_r (cd_115 rfl) mt_115 rfl rfl rfl e81 ?_
  refine ey_iload_n (cd_115 rfl) f3 ?_
  refine ey_iload (cd_115 rfl) f6 ?_
  by_cases q82 : (jw x6) = 0
  · rw [if_pos q82] at e
    refine ey_yne (cd_115 rfl) rfl rfl (fun w => w q82) ?_
    refine ey_iconst (cd_115 rfl) ?_
    refine ey_goto (cd_115 rfl) rfl ?_
    exact jk_115_b171 e lv f0 f1 f2 f3 f6
  · rw [if_neg q82] at e
    refine ey_zne (cd_115 rfl) rfl rfl q82 ?_
    refine ey_aload_n (cd_115 rfl) f0 ?_
    obtain ⟨v115, e116, e⟩ := jbind e
    refine ey_getf_i (cd_115 rfl) mt_115 rfl rfl rfl e116 ?_
    exact jk_115_b171 e lv f0 f1 f2 f3 f6
set_option maxRecDepth 100000 in
theorem jk_115_b126 {L : Nat} {xs : Nat → Int32} {this : Nat} {x1 : Option Nat} {x2 : Option Nat} {x3 : Int} {x6 : Int} {h : jH} {o : jH} (e : jd_115_b126 this x1 x2 x3 x6 h = some o) : ∀ lv : jL, lv 0 = some (jR (some this)) → lv 1 = some (jR x1) → lv 2 = some (jR x2) → lv 3 = some (jI x3) → lv 6 = some (jI x6) → ey (mm_xt L xs) 5 115 126 lv [] h (.inl (none, jaH o)) := by
  intro lv f0 f1 f2 f3 f6
  unfold jd_115_b126 at e
  refine ey_iload (cd_115 rfl) f6 ?_
  by_cases q61 : (jw x6) = 0
  · rw [if_pos q61] at e
    refine ey_yne (cd_115 rfl) rfl rfl (fun w => w q61) ?_
    refine ey_aload_n (cd_115 rfl) f0 ?_
    obtain ⟨r62, e63, e⟩ := jbind e
    refine ey_getf_r (cd_115 rfl) mt_115 rfl rfl rfl e63 ?_
    obtain ⟨a64, e65, e⟩ := jbind e
    refine ey_rs (s0 := [jR r62]) (s1 := [jR (some a64)]) (by rw [e65]) ?_
    obtain ⟨u66, e67, e⟩ := jbind e
    obtain ⟨q68, e69, e⟩ := jbind e
    refine ey_cv (s0 := [jR (some a64)]) (s1 := []) (st' := [jI q68.1]) (cd_115 rfl) mt_115 mt_5 rfl rfl rfl (jck_s e67) rfl (jsml_s rfl) rfl (mm_Runs.up (d := 2) (by decide) (ok_5 e69)) ?_
    have K117 : ∀ lv : jL, lv 0 = some (jR (some this)) → lv 1 = some (jR x1) → lv 2 = some (jR x2) → lv 3 = some (jI x3) → lv 6 = some (jI (if (jw q68.1) = 0 then 6 else x6)) → ey (mm_xt L xs) 5 115 145 lv [] q68.2 (.inl (none, jaH o)) := by
      intro lv g0 g1 g2 g3 g6
      exact jk_115_b145 e lv g0 g1 g2 g3 g6
    by_cases q118 : (jw q68.1) = 0
    · refine ey_yne (cd_115 rfl) rfl rfl (fun w => w q118) ?_
      refine ey_bipush (cd_115 rfl) (by decide) ?_
      refine ey_istore (cd_115 rfl) mt_115 rfl ?_
      exact K117 (jup lv 6 (jI 6)) f0 f1 f2 f3 (Eq.trans (show (jup lv 6 (jI 6)) 6 = some (jI 6) from rfl) (congrArg (fun z => some (jI z)) (Eq.symm (if_pos q118))))
    · refine ey_zne (cd_115 rfl) rfl rfl q118 ?_
      exact K117 lv f0 f1 f2 f3 (Eq.trans (show lv 6 = some (jI x6) from f6) (congrArg (fun z => some (jI z)) (Eq.symm (if_neg q118))))
  · rw [if_neg q61] at e
    refine ey_zne (cd_115 rfl) rfl rfl q61 ?_
    exact jk_115_b145 e lv f0 f1 f2 f3 f6
set_option maxRecDepth 100000 in
theorem jk_115_b31 {L : Nat} {xs : Nat → Int32} {this : Nat} {x1 : Option Nat} {x2 : Option Nat} {x3 : Int} {x4 : Int} {y0 : Int} {y1 : Int} {y2 : Option Nat} {y3 : Option Nat} {h : jH} {o : jH} (e : jd_115_b31 this x1 x2 x3 x4 y0 y1 y2 y3 h = some o) : ∀ lv : jL, lv 0 = some (jR (some this)) → lv 1 = some (jR x1) → lv 2 = some (jR x2) → lv 3 = some (jI x3) → lv 4 = some (jI x4) → ey (mm_xt L xs) 5 115 31 lv [jI y0, jI y1, jR y2, jR y3] h (.inl (none, jaH o)) := by
  intro lv f0 f1 f2 f3 f4
  unfold jd_115_b31 at e
  obtain ⟨a24, e25, e⟩ := jbind e
  refine ey_rs (s0 := [jI y0, jI y1, jR y2, jR y3]) (s1 := [jI y0, jI y1, jR y2, jR (some a24)]) (by rw [e25]) ?_
  obtain ⟨u26, e27, e⟩ := jbind e
  obtain ⟨h28, e29, e⟩ := jbind e
  refine ey_cv (s0 := [jI y0, jI y1, jR y2, jR (some a24)]) (s1 := []) (st' := []) (cd_115 rfl) mt_115 mt_1 rfl rfl rfl (jck_s e27) rfl (jsml_s rfl) rfl (mm_Runs.up (d := 1) (by decide) (ok_1 e29)) ?_
  refine ey_aload_n (cd_115 rfl) f0 ?_
  obtain ⟨r30, e31, e⟩ := jbind e
  refine ey_getf_r (cd_115 rfl) mt_115 rfl rfl rfl e31 ?_
  refine ey_aload_n (cd_115 rfl) f1 ?_
  refine ey_aload_n (cd_115 rfl) f2 ?_
  refine ey_iload_n (cd_115 rfl) f3 ?_
  refine ey_iload (cd_115 rfl) f4 ?_
  obtain ⟨a32, e33, e⟩ := jbind e
  refine ey_rs (s0 := [jI x4, jI x3, jR x2, jR x1, jR r30]) (s1 := [jI x4, jI x3, jR x2, jR x1, jR (some a32)]) (by rw [e33]) ?_
  obtain ⟨u34, e35, e⟩ := jbind e
  obtain ⟨h36, e37, e⟩ := jbind e
  refine ey_cv (s0 := [jI x4, jI x3, jR x2, jR x1, jR (some a32)]) (s1 := []) (st' := []) (cd_115 rfl) mt_115 mt_73 rfl rfl rfl (jck_s e35) rfl (jsml_s rfl) rfl (mm_Runs.up (d := 2) (by decide) (ok_73 e37)) ?_
  refine ey_aload_n (cd_115 rfl) f0 ?_
  obtain ⟨r38, e39, e⟩ := jbind e
  refine ey_getf_r (cd_115 rfl) mt_115 rfl rfl rfl e39 ?_
  refine ey_aload_n (cd_115 rfl) f1 ?_
  obtain ⟨a40, e41, e⟩ := jbind e
  refine ey_rs (s0 := [jR x1, jR r38]) (s1 := [jR (some a40), jR r38]) (by rw [e41]) ?_
  obtain ⟨r42, e43, e⟩ := jbind e
  refine ey_getf_r (cd_115 rfl) mt_115 rfl rfl rfl e43 ?_
  refine ey_iload_n (cd_115 rfl) f3 ?_
  obtain ⟨a44, e45, e⟩ := jbind e
  refine ey_rs (s0 := [jI x3, jR r42, jR r38]) (s1 := [jI x3, jR (some a44), jR r38]) (by rw [e45]) ?_
  obtain ⟨v46, e47, e⟩ := jbind e
  refine ey_iald (cd_115 rfl) e47 ?_
  obtain ⟨a48, e49, e⟩ := jbind e
  refine ey_rs (s0 := [jI v46, jR r38]) (s1 := [jI v46, jR (some a48)]) (by rw [e49]) ?_
  obtain ⟨h50, e51, e⟩ := jbind e
  refine ey_putf_i (cd_115 rfl) mt_115 rfl rfl rfl e51 ?_
  refine ey_aload_n (cd_115 rfl) f1 ?_
  obtain ⟨a52, e53, e⟩ := jbind e
  refine ey_rs (s0 := [jR x1]) (s1 := [jR (some a52)]) (by rw [e53]) ?_
  obtain ⟨v54, e55, e⟩ := jbind e
  refine ey_getf_i (cd_115 rfl) mt_115 rfl rfl rfl e55 ?_
  by_cases q56 : (jw v54) = 0
  · rw [if_pos q56] at e
    refine ey_lsw (off := 25) (cd_115 rfl) (by decide) (Eq.trans (congrArg (Op.lookupswitch.offset _ _) q56) rfl) rfl ?_
    refine ey_aload_n (cd_115 rfl) f0 ?_
    refine ey_aload_n (cd_115 rfl) f2 ?_
    refine ey_iload_n (cd_115 rfl) f3 ?_
    obtain ⟨u57, e58, e⟩ := jbind e
    obtain ⟨q59, e60, e⟩ := jbind e
    refine ey_cv (s0 := [jI x3, jR x2, jR (some this)]) (s1 := []) (st' := [jI q59.1]) (cd_115 rfl) mt_115 mt_117 rfl rfl rfl (jck_s e58) rfl (jsml_s rfl) rfl (ok_117 e60) ?_
    refine ey_istore (cd_115 rfl) mt_115 rfl ?_
    refine ey_goto (cd_115 rfl) rfl ?_
    exact jk_115_b126 e (jup lv 6 (jI q59.1)) f0 f1 f2 f3 rfl
  · rw [if_neg q56] at e
    by_cases q119 : (jw v54) = 1
    · rw [if_pos q119] at e
      refine ey_lsw (off := 36) (cd_115 rfl) (by decide) (Eq.trans (congrArg (Op.lookupswitch.offset _ _) q119) rfl) rfl ?_
      refine ey_aload_n (cd_115 rfl) f0 ?_
      refine ey_aload_n (cd_115 rfl) f2 ?_
      obtain ⟨a120, e121, e⟩ := jbind e
      refine ey_rs (s0 := [jR x2, jR (some this)]) (s1 := [jR (some a120), jR (some this)]) (by rw [e121]) ?_
      obtain ⟨r122, e123, e⟩ := jbind e
      refine ey_getf_r (cd_115 rfl) mt_115 rfl rfl rfl e123 ?_
      refine ey_iload_n (cd_115 rfl) f3 ?_
      obtain ⟨a124, e125, e⟩ := jbind e
      refine ey_rs (s0 := [jI x3, jR r122, jR (some this)]) (s1 := [jI x3, jR (some a124), jR (some this)]) (by rw [e125]) ?_
      obtain ⟨r126, e127, e⟩ := jbind e
      refine ey_aald (cd_115 rfl) (by decide) e127 ?_
      obtain ⟨u128, e129, e⟩ := jbind e
      obtain ⟨q130, e131, e⟩ := jbind e
      refine ey_cv (s0 := [jR r126, jR (some this)]) (s1 := []) (st' := [jI q130.1]) (cd_115 rfl) mt_115 mt_121 rfl rfl rfl (jck_s e129) rfl (jsml_s rfl) rfl (ok_121 e131) ?_
      refine ey_istore (cd_115 rfl) mt_115 rfl ?_
      refine ey_goto (cd_115 rfl) rfl ?_
      exact jk_115_b126 e (jup lv 6 (jI q130.1)) f0 f1 f2 f3 rfl
    · rw [if_neg q119] at e
      refine ey_lsw (off := 51) (cd_115 rfl) (by decide) (by simp only [Op.lookupswitch.offset, if_neg (fun w => q56 (Eq.symm w)), if_neg (fun w => q119 (Eq.symm w))]) rfl ?_
      refine ey_aload_n (cd_115 rfl) f0 ?_
      refine ey_aload_n (cd_115 rfl) f2 ?_
      obtain ⟨a132, e133, e⟩ := jbind e
      refine ey_rs (s0 := [jR x2, jR (some this)]) (s1 := [jR (some a132), jR (some this)]) (by rw [e133]) ?_
      obtain ⟨r134, e135, e⟩ := jbind e
      refine ey_getf_r (cd_115 rfl) mt_115 rfl rfl rfl e135 ?_
      refine ey_iload_n (cd_115 rfl) f3 ?_
      obtain ⟨a136, e137, e⟩ := jbind e
      refine ey_rs (s0 := [jI x3, jR r134, jR (some this)]) (s1 := [jI x3, jR (some a136), jR (some this)]) (by rw [e137]) ?_
      obtain ⟨r138, e139, e⟩ := jbind e
      refine ey_aald (cd_115 rfl) (by decide) e139 ?_
      obtain ⟨u140, e141, e⟩ := jbind e
      obtain ⟨q142, e143, e⟩ := jbind e
      refine ey_cv (s0 := [jR r138, jR (some this)]) (s1 := []) (st' := [jI q142.1]) (cd_115 rfl) mt_115 mt_122 rfl rfl rfl (jck_s e141) rfl (jsml_s rfl) rfl (ok_122 e143) ?_
      refine ey_istore (cd_115 rfl) mt_115 rfl ?_
      exact jk_115_b126 e (jup lv 6 (jI q142.1)) f0 f1 f2 f3 rfl
set_option maxRecDepth 100000 in
theorem ok_115 {L : Nat} {xs : Nat → Int32} {this : Nat} {p0 : Option Nat} {p1 : Option Nat} {p2 : Int} {p3 : Int} {p4 : Int} {h : jH} {o : jH} (e : jd_115 this p0 p1 p2 p3 p4 h = some o) : mm_Runs (mm_xt L xs) 6 115 ([jR (some this), jR p0, jR p1, jI p2, jI p3, jI p4].map jcv) (jaH h) (.inl (none, jaH o)) := by
  refine ey_run0 _ mt_115 (jsl_s rfl) ?_
  unfold jd_115 at e
  refine ey_aload_n (cd_115 rfl) rfl ?_
  obtain ⟨r1, e2, e⟩ := jbind e
  refine ey_getf_r (cd_115 rfl) mt_115 rfl rfl rfl e2 ?_
  refine ey_aload_n (cd_115 rfl) rfl ?_
  obtain ⟨a3, e4, e⟩ := jbind e
  refine ey_rs (s0 := [jR p0, jR r1]) (s1 := [jR (some a3), jR r1]) (by rw [e4]) ?_
  obtain ⟨r5, e6, e⟩ := jbind e
  refine ey_getf_r (cd_115 rfl) mt_115 rfl rfl rfl e6 ?_
  refine ey_aload_n (cd_115 rfl) rfl ?_
  obtain ⟨a7, e8, e⟩ := jbind e
  refine ey_rs (s0 := [jR p0, jR r5, jR r1]) (s1 := [jR (some a7), jR r5, jR r1]) (by rw [e8]) ?_
  obtain ⟨r9, e10, e⟩ := jbind e
  refine ey_getf_r (cd_115 rfl) mt_115 rfl rfl rfl e10 ?_
  refine ey_iload_n (cd_115 rfl) rfl ?_
  obtain ⟨a11, e12, e⟩ := jbind e
  refine ey_rs (s0 := [jI p2, jR r9, jR r5, jR r1]) (s1 := [jI p2, jR (some a11), jR r5, jR r1]) (by rw [e12]) ?_
  obtain ⟨v13, e14, e⟩ := jbind e
  refine ey_iald (cd_115 rfl) e14 ?_
  refine ey_iconst (cd_115 rfl) ?_
  refine ey_iadd (cd_115 rfl) ?_
  refine ey_iload (cd_115 rfl) rfl ?_
  by_cases q15 : (jw p4) = 0
  · rw [if_pos q15] at e
    refine ey_zeq (cd_115 rfl) rfl rfl q15 ?_
    refine ey_aload_n (cd_115 rfl) rfl ?_
    obtain ⟨a16, e17, e⟩ := jbind e
    refine ey_rs (s0 := [jR p0, jI (v13 + 5), jR r5, jR r1]) (s1 := [jR (some a16), jI (v13 + 5), jR r5, jR r1]) (by rw [e17]) ?_
    obtain ⟨r18, e19, e⟩ := jbind e
    refine ey_getf_r (cd_115 rfl) mt_115 rfl rfl rfl e19 ?_
    refine ey_iload_n (cd_115 rfl) rfl ?_
    obtain ⟨a20, e21, e⟩ := jbind e
    refine ey_rs (s0 := [jI p2, jR r18, jI (v13 + 5), jR r5, jR r1]) (s1 := [jI p2, jR (some a20), jI (v13 + 5), jR r5, jR r1]) (by rw [e21]) ?_
    obtain ⟨v22, e23, e⟩ := jbind e
    refine ey_iald (cd_115 rfl) e23 ?_
    exact jk_115_b31 e (jlf (jla 0 [jR (some this), jR p0, jR p1, jI p2, jI p3, jI p4])) rfl rfl rfl rfl rfl
  · rw [if_neg q15] at e
    refine ey_yeq (cd_115 rfl) rfl rfl q15 ?_
    refine ey_iconst (cd_115 rfl) ?_
    refine ey_goto (cd_115 rfl) rfl ?_
    exact jk_115_b31 e (jlf (jla 0 [jR (some this), jR p0, jR p1, jI p2, jI p3, jI p4])) rfl rfl rfl rfl rfl
