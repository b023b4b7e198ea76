theorem cd_62 {pc : Nat} {i : Instr × Nat} (h : mm_lk mm_c62 pc = some i) : mm_cd 62 pc = some i := h
theorem mt_62 : mm_MT 62 = (4, 5, none, 1, 0, []) := rfl
set_option maxRecDepth 100000 in
theorem jk_62_s12 {L : Nat} {xs : Nat → Int32} {this : Nat} {x1 : Option Nat} {x2 : Int} {h : jH} {o : ((Int × jH) ⊕ jH)} {r : mm_R} (e : jd_62_s12 this x1 x2 h = some o) (K : jsm (fun s => (∀ lv : jL, lv 0 = some (jR (some this)) → lv 1 = some (jR x1) → lv 2 = some (jI s.1) → ey (mm_xt L xs) 6 62 12 lv [] s.2 r)) (fun x => (∀ lv : jL, lv 0 = some (jR (some this)) → lv 1 = some (jR x1) → ey (mm_xt L xs) 6 62 30 lv [] x r)) o) : ∀ lv : jL, lv 0 = some (jR (some this)) → lv 1 = some (jR x1) → lv 2 = some (jI x2) → ey (mm_xt L xs) 6 62 12 lv [] h r := by
  intro lv f0 f1 f2
  unfold jd_62_s12 at e
  refine ey_iload_n (cd_62 rfl) f2 ?_
  refine ey_iconst (cd_62 rfl) ?_
  by_cases q9 : 4 ≤ (jw x2)
  · rw [if_pos q9] at e
    refine ey_cge (cd_62 rfl) rfl rfl (show jw 4 = 4 from by decide) q9 ?_
    cases e
    exact K lv f0 f1
  · rw [if_neg q9] at e
    refine ey_nge (cd_62 rfl) rfl rfl (show jw 4 = 4 from by decide) q9 ?_
    refine ey_aload_n (cd_62 rfl) f0 ?_
    obtain ⟨r10, e11, e⟩ := jbind e
    refine ey_getf_r (cd_62 rfl) mt_62 rfl rfl rfl e11 ?_
    refine ey_iload_n (cd_62 rfl) f2 ?_
    refine ey_iconst (cd_62 rfl) ?_
    obtain ⟨a12, e13, e⟩ := jbind e
    refine ey_rs (s0 := [jI (-1), jI x2, jR r10]) (s1 := [jI (-1), jI x2, jR (some a12)]) (by rw [e13]) ?_
    obtain ⟨h14, e15, e⟩ := jbind e
    refine ey_iast (cd_62 rfl) e15 ?_
    refine ey_iinc (cd_62 rfl) mt_62 rfl f2 ?_
    refine ey_goto (cd_62 rfl) rfl ?_
    cases e
    exact K (jup lv 2 (jI (x2 + 1))) f0 (jup_pr (lv := lv) (j := 1) (v := jI (x2 + 1)) (z := x1) f1) rfl
theorem jk_62_l12 {L : Nat} {xs : Nat → Int32} {this : Nat} {x1 : Option Nat} {x2 : Int} {h : jH} {x : jH} {r : mm_R} (e : jd_62_l12 this x1 x2 h = some x) (K : (∀ lv : jL, lv 0 = some (jR (some this)) → lv 1 = some (jR x1) → ey (mm_xt L xs) 6 62 30 lv [] x r)) : ∀ lv : jL, lv 0 = some (jR (some this)) → lv 1 = some (jR x1) → lv 2 = some (jI x2) → ey (mm_xt L xs) 6 62 12 lv [] h r := by
  unfold jd_62_l12 at e
  exact jlp_ok2 (P := fun s => ∀ lv : jL, lv 0 = some (jR (some this)) → lv 1 = some (jR x1) → lv 2 = some (jI s.1) → ey (mm_xt L xs) 6 62 12 lv [] s.2 r) (Q := fun x => (∀ lv : jL, lv 0 = some (jR (some this)) → lv 1 = some (jR x1) → ey (mm_xt L xs) 6 62 30 lv [] x r)) (fun s q hq hk => jk_62_s12 hq hk) jfu _ x e K
set_option maxRecDepth 100000 in
theorem jk_62_b137 {L : Nat} {xs : Nat → Int32} {this : Nat} {x1 : Option Nat} {x2 : Int} {x3 : Int} {h : jH} {o : ((Int × jH) ⊕ jH)} {r : mm_R} (e : jd_62_b137 this x1 x2 x3 h = some o) (K : jsm (fun s => (∀ lv : jL, lv 0 = some (jR (some this)) → lv 1 = some (jR x1) → lv 2 = some (jI x2) → lv 3 = some (jI s.1) → ey (mm_xt L xs) 6 62 78 lv [] s.2 r)) (fun x => (∀ lv : jL, lv 0 = some (jR (some this)) → lv 1 = some (jR x1) → lv 2 = some (jI x2) → ey (mm_xt L xs) 6 62 143 lv [] x r)) o) : ∀ lv : jL, lv 0 = some (jR (some this)) → lv 1 = some (jR x1) → lv 2 = some (jI x2) → lv 3 = some (jI x3) → ey (mm_xt L xs) 6 62 137 lv [] h r := by
  intro lv f0 f1 f2 f3
  unfold jd_62_b137 at e
  refine ey_iinc (cd_62 rfl) mt_62 rfl f3 ?_
  refine ey_goto (cd_62 rfl) rfl ?_
  cases e
  exact K (jup lv 3 (jI (x3 + 1))) f0 f1 (jup_pi (lv := lv) (j := 2) (v := jI (x3 + 1)) (z := x2) f2) rfl
set_option maxRecDepth 100000 in
theorem jk_62_s78 {L : Nat} {xs : Nat → Int32} {this : Nat} {x1 : Option Nat} {x2 : Int} {x3 : Int} {h : jH} {o : ((Int × jH) ⊕ jH)} {r : mm_R} (e : jd_62_s78 this x1 x2 x3 h = some o) (K : jsm (fun s => (∀ lv : jL, lv 0 = some (jR (some this)) → lv 1 = some (jR x1) → lv 2 = some (jI x2) → lv 3 = some (jI s.1) → ey (mm_xt L xs) 6 62 78 lv [] s.2 r)) (fun x => (∀ lv : jL, lv 0 = some (jR (some this)) → lv 1 = some (jR x1) → lv 2 = some (jI x2) → ey (mm_xt L xs) 6 62 143 lv [] x r)) o) : ∀ lv : jL, lv 0 = some (jR (some this)) → lv 1 = some (jR x1) → lv 2 = some (jI x2) → lv 3 = some (jI x3) → ey (mm_xt L xs) 6 62 78 lv [] h r := by
  intro lv f0 f1 f2 f3
  unfold jd_62_s78 at e
  refine ey_iload_n (cd_62 rfl) f3 ?_
  refine ey_iconst (cd_62 rfl) ?_
  by_cases q55 : 4 < (jw x3)
  · rw [if_pos q55] at e
    refine ey_cgt (cd_62 rfl) rfl rfl (show jw 4 = 4 from by decide) q55 ?_
    cases e
    exact K lv f0 f1 f2
  · rw [if_neg q55] at e
    refine ey_ngt (cd_62 rfl) rfl rfl (show jw 4 = 4 from by decide) q55 ?_
    refine ey_iload_n (cd_62 rfl) f2 ?_
    refine ey_iload_n (cd_62 rfl) f3 ?_
    refine ey_iadd (cd_62 rfl) ?_
    refine ey_aload_n (cd_62 rfl) f0 ?_
    obtain ⟨v56, e57, e⟩ := jbind e
    refine ey_getf_i (cd_62 rfl) mt_62 rfl rfl rfl e57 ?_
    by_cases q58 : (jw v56) < (jw (x2 + x3))
    · rw [if_pos q58] at e
      refine ey_cgt (cd_62 rfl) rfl rfl rfl q58 ?_
      cases e
      exact K lv f0 f1 f2
    · rw [if_neg q58] at e
      refine ey_ngt (cd_62 rfl) rfl rfl rfl q58 ?_
      refine ey_aload_n (cd_62 rfl) f0 ?_
      refine ey_aload_n (cd_62 rfl) f1 ?_
      refine ey_iload_n (cd_62 rfl) f2 ?_
      refine ey_iload_n (cd_62 rfl) f3 ?_
      obtain ⟨u59, e60, e⟩ := jbind e
      obtain ⟨q61, e62, e⟩ := jbind e
      refine ey_cv (s0 := [jI x3, jI x2, jR x1, jR (some this)]) (s1 := []) (st' := [jI q61.1]) (cd_62 rfl) mt_62 mt_63 rfl rfl rfl (jck_s e60) rfl (jsml_s rfl) rfl (ok_63 e62) ?_
      refine ey_aload_n (cd_62 rfl) f0 ?_
      obtain ⟨r63, e64, e⟩ := jbind e
      refine ey_getf_r (cd_62 rfl) mt_62 rfl rfl rfl e64 ?_
      refine ey_iload_n (cd_62 rfl) f2 ?_
      refine ey_iload_n (cd_62 rfl) f3 ?_
      refine ey_iadd (cd_62 rfl) ?_
      obtain ⟨a65, e66, e⟩ := jbind e
      refine ey_rs (s0 := [jI (x2 + x3), jR r63, jI q61.1]) (s1 := [jI (x2 + x3), jR (some a65), jI q61.1]) (by rw [e66]) ?_
      obtain ⟨v67, e68, e⟩ := jbind e
      refine ey_iald (cd_62 rfl) e68 ?_
      refine ey_iadd (cd_62 rfl) ?_
      refine ey_istore (cd_62 rfl) mt_62 rfl ?_
      refine ey_iload (cd_62 rfl) rfl ?_
      refine ey_aload_n (cd_62 rfl) f0 ?_
      obtain ⟨r69, e70, e⟩ := jbind e
      refine ey_getf_r (cd_62 rfl) mt_62 rfl rfl rfl e70 ?_
      refine ey_iload_n (cd_62 rfl) f2 ?_
      obtain ⟨a71, e72, e⟩ := jbind e
      refine ey_rs (s0 := [jI x2, jR r69, jI (q61.1 + v67)]) (s1 := [jI x2, jR (some a71), jI (q61.1 + v67)]) (by rw [e72]) ?_
      obtain ⟨v73, e74, e⟩ := jbind e
      refine ey_iald (cd_62 rfl) e74 ?_
      by_cases q75 : (jw v73) ≤ (jw (q61.1 + v67))
      · rw [if_pos q75] at e
        refine ey_cge (cd_62 rfl) rfl rfl rfl q75 ?_
        exact jk_62_b137 e K (jup lv 4 (jI (q61.1 + v67))) f0 f1 f2 (jup_pi (lv := lv) (j := 3) (v := jI (q61.1 + v67)) (z := x3) f3)
      · rw [if_neg q75] at e
        refine ey_nge (cd_62 rfl) rfl rfl rfl q75 ?_
        refine ey_aload_n (cd_62 rfl) f0 ?_
        obtain ⟨r76, e77, e⟩ := jbind e
        refine ey_getf_r (cd_62 rfl) mt_62 rfl rfl rfl e77 ?_
        refine ey_iload_n (cd_62 rfl) f2 ?_
        refine ey_iload (cd_62 rfl) rfl ?_
        obtain ⟨a78, e79, e⟩ := jbind e
        refine ey_rs (s0 := [jI (q61.1 + v67), jI x2, jR r76]) (s1 := [jI (q61.1 + v67), jI x2, jR (some a78)]) (by rw [e79]) ?_
        obtain ⟨h80, e81, e⟩ := jbind e
        refine ey_iast (cd_62 rfl) e81 ?_
        refine ey_aload_n (cd_62 rfl) f0 ?_
        obtain ⟨r82, e83, e⟩ := jbind e
        refine ey_getf_r (cd_62 rfl) mt_62 rfl rfl rfl e83 ?_
        refine ey_iload_n (cd_62 rfl) f2 ?_
        refine ey_iload_n (cd_62 rfl) (jup_pi (lv := lv) (j := 3) (v := jI (q61.1 + v67)) (z := x3) f3) ?_
        obtain ⟨a84, e85, e⟩ := jbind e
        refine ey_rs (s0 := [jI x3, jI x2, jR r82]) (s1 := [jI x3, jI x2, jR (some a84)]) (by rw [e85]) ?_
        obtain ⟨h86, e87, e⟩ := jbind e
        refine ey_iast (cd_62 rfl) e87 ?_
        exact jk_62_b137 e K (jup lv 4 (jI (q61.1 + v67))) f0 f1 f2 (jup_pi (lv := lv) (j := 3) (v := jI (q61.1 + v67)) (z := x3) f3)
theorem jk_62_l78 {L : Nat} {xs : Nat → Int32} {this : Nat} {x1 : Option Nat} {x2 : Int} {x3 : Int} {h : jH} {x : jH} {r : mm_R} (e : jd_62_l78 this x1 x2 x3 h = some x) (K : (∀ lv : jL, lv 0 = some (jR (some this)) → lv 1 = some (jR x1) → lv 2 = some (jI x2) → ey (mm_xt L xs) 6 62 143 lv [] x r)) : ∀ lv : jL, lv 0 = some (jR (some this)) → lv 1 = some (jR x1) → lv 2 = some (jI x2) → lv 3 = some (jI x3) → ey (mm_xt L xs) 6 62 78 lv [] h r := by
  unfold jd_62_l78 at e
  exact jlp_ok2 (P := fun s => ∀ lv : jL, lv 0 = some (jR (some this)) → lv 1 = some (jR x1) → lv 2 = some (jI x2) → lv 3 = some (jI s.1) → ey (mm_xt L xs) 6 62 78 lv [] s.2 r) (Q := fun x => (∀ lv : jL, lv 0 = some (jR (some this)) → lv 1 = some (jR x1) → lv 2 = some (jI x2) → ey (mm_xt L xs) 6 62 143 lv [] x r)) (fun s q hq hk => jk_62_s78 hq hk) jfu _ x e K
set_option maxRecDepth 100000 in
theorem jk_62_s64 {L : Nat} {xs : Nat → Int32} {this : Nat} {x1 : Option Nat} {x2 : Int} {h : jH} {o : ((Int × jH) ⊕ jH)} {r : mm_R} (e : jd_62_s64 this x1 x2 h = some o) (K : jsm (fun s => (∀ lv : jL, lv 0 = some (jR (some this)) → lv 1 = some (jR x1) → lv 2 = some (jI s.1) → ey (mm_xt L xs) 6 62 64 lv [] s.2 r)) (fun x => (∀ lv : jL, ey (mm_xt L xs) 6 62 149 lv [] x r)) o) : ∀ lv : jL, lv 0 = some (jR (some this)) → lv 1 = some (jR x1) → lv 2 = some (jI x2) → ey (mm_xt L xs) 6 62 64 lv [] h r := by
  intro lv f0 f1 f2
  unfold jd_62_s64 at e
  refine ey_iload_n (cd_62 rfl) f2 ?_
  by_cases q48 : (jw x2) < 0
  · rw [if_pos q48] at e
    refine ey_zlt (cd_62 rfl) rfl rfl q48 ?_
    cases e
    exact K lv 
  · rw [if_neg q48] at e
    refine ey_ylt (cd_62 rfl) rfl rfl q48 ?_
    refine ey_aload_n (cd_62 rfl) f0 ?_
    obtain ⟨r49, e50, e⟩ := jbind e
    refine ey_getf_r (cd_62 rfl) mt_62 rfl rfl rfl e50 ?_
    refine ey_iload_n (cd_62 rfl) f2 ?_
    refine ey_ldc (z := 2147483647) (cd_62 rfl) mt_62 rfl (by decide) ?_
    obtain ⟨a51, e52, e⟩ := jbind e
    refine ey_rs (s0 := [jI 2147483647, jI x2, jR r49]) (s1 := [jI 2147483647, jI x2, jR (some a51)]) (by rw [e52]) ?_
    obtain ⟨h53, e54, e⟩ := jbind e
    refine ey_iast (cd_62 rfl) e54 ?_
    refine ey_iconst (cd_62 rfl) ?_
    refine ey_istore_n (cd_62 rfl) mt_62 rfl ?_
    obtain ⟨x88, e89, e⟩ := jbind e
    refine jk_62_l78 e89 ?_ (jup lv 3 (jI 1)) f0 f1 (jup_pi (lv := lv) (j := 2) (v := jI 1) (z := x2) f2) rfl
    intro lv g0 g1 g2
    refine ey_iinc (cd_62 rfl) mt_62 rfl g2 ?_
    refine ey_goto (cd_62 rfl) rfl ?_
    cases e
    exact K (jup lv 2 (jI (x2 + (-1)))) g0 (jup_pr (lv := lv) (j := 1) (v := jI (x2 + (-1))) (z := x1) g1) rfl
theorem jk_62_l64 {L : Nat} {xs : Nat → Int32} {this : Nat} {x1 : Option Nat} {x2 : Int} {h : jH} {x : jH} {r : mm_R} (e : jd_62_l64 this x1 x2 h = some x) (K : (∀ lv : jL, ey (mm_xt L xs) 6 62 149 lv [] x r)) : ∀ lv : jL, lv 0 = some (jR (some this)) → lv 1 = some (jR x1) → lv 2 = some (jI x2) → ey (mm_xt L xs) 6 62 64 lv [] h r := by
  unfold jd_62_l64 at e
  exact jlp_ok2 (P := fun s => ∀ lv : jL, lv 0 = some (jR (some this)) → lv 1 = some (jR x1) → lv 2 = some (jI s.1) → ey (mm_xt L xs) 6 62 64 lv [] s.2 r) (Q := fun x => (∀ lv : jL, ey (mm_xt L xs) 6 62 149 lv [] x r)) (fun s q hq hk => jk_62_s64 hq hk) jfu _ x e K
set_option maxRecDepth 100000 in
theorem ok_62 {L : Nat} {xs : Nat → Int32} {this : Nat} {p0 : Option Nat} {h : jH} {o : jH} (e : jd_62 this p0 h = some o) : mm_Runs (mm_xt L xs) 7 62 ([jR (some this), jR p0].map jcv) (jaH h) (.inl (none, jaH o)) := by
  refine ey_run0 _ mt_62 (jsl_s rfl) ?_
  unfold jd_62 at e
  refine ey_aload_n (cd_62 rfl) rfl ?_
  obtain ⟨r1, e2, e⟩ := jbind e
  refine ey_getf_r (cd_62 rfl) mt_62 rfl rfl rfl e2 ?_
  refine ey_aload_n (cd_62 rfl) rfl ?_
  obtain ⟨v3, e4, e⟩ := jbind e
  refine ey_getf_i (cd_62 rfl) mt_62 rfl rfl rfl e4 ?_
  refine ey_iconst (cd_62 rfl) ?_
  obtain ⟨a5, e6, e⟩ := jbind e
  refine ey_rs (s0 := [jI 0, jI v3, jR r1]) (s1 := [jI 0, jI v3, jR (some a5)]) (by rw [e6]) ?_
  obtain ⟨h7, e8, e⟩ := jbind e
  refine ey_iast (cd_62 rfl) e8 ?_
  refine ey_iconst (cd_62 rfl) ?_
  refine ey_istore_n (cd_62 rfl) mt_62 rfl ?_
  obtain ⟨x16, e17, e⟩ := jbind e
  refine jk_62_l12 e17 ?_ (jup (jlf (jla 0 [jR (some this), jR p0])) 2 (jI 0)) rfl (jup_pr (lv := (jlf (jla 0 [jR (some this), jR p0]))) (j := 1) (v := jI 0) (z := p0) rfl) rfl
  intro lv g0 g1
  refine ey_aload_n (cd_62 rfl) g1 ?_
  refine ey_aload_n (cd_62 rfl) g0 ?_
  obtain ⟨r18, e19, e⟩ := jbind e
  refine ey_getf_r (cd_62 rfl) mt_62 rfl rfl rfl e19 ?_
  refine ey_iconst (cd_62 rfl) ?_
  obtain ⟨a20, e21, e⟩ := jbind e
  refine ey_rs (s0 := [jI 0, jR r18, jR p0]) (s1 := [jI 0, jR (some a20), jR p0]) (by rw [e21]) ?_
  obtain ⟨r22, e23, e⟩ := jbind e
  refine ey_aald (cd_62 rfl) (by decide) e23 ?_
  obtain ⟨a24, e25, e⟩ := jbind e
  refine ey_rs (s0 := [jR r22, jR p0]) (s1 := [jR (some a24), jR p0]) (by rw [e25]) ?_
  obtain ⟨v26, e27, e⟩ := jbind e
  refine ey_getf_i (cd_62 rfl) mt_62 rfl rfl rfl e27 ?_
  refine ey_aload_n (cd_62 rfl) g0 ?_
  obtain ⟨r28, e29, e⟩ := jbind e
  refine ey_getf_r (cd_62 rfl) mt_62 rfl rfl rfl e29 ?_
  refine ey_iconst (cd_62 rfl) ?_
  obtain ⟨a30, e31, e⟩ := jbind e
  refine ey_rs (s0 := [jI 0, jR r28, jI v26, jR p0]) (s1 := [jI 0, jR (some a30), jI v26, jR p0]) (by rw [e31]) ?_
  obtain ⟨r32, e33, e⟩ := jbind e
  refine ey_aald (cd_62 rfl) (by decide) e33 ?_
  obtain ⟨a34, e35, e⟩ := jbind e
  refine ey_rs (s0 := [jR r32, jI v26, jR p0]) (s1 := [jR (some a34), jI v26, jR p0]) (by rw [e35]) ?_
  obtain ⟨v36, e37, e⟩ := jbind e
  refine ey_getf_i (cd_62 rfl) mt_62 rfl rfl rfl e37 ?_
  refine ey_iconst (cd_62 rfl) ?_
  refine ey_aload_n (cd_62 rfl) g0 ?_
  obtain ⟨v38, e39, e⟩ := jbind e
  refine ey_getf_i (cd_62 rfl) mt_62 rfl rfl rfl e39 ?_
  obtain ⟨a40, e41, e⟩ := jbind e
  refine ey_rs (s0 := [jI v38, jI 0, jI v36, jI v26, jR p0]) (s1 := [jI v38, jI 0, jI v36, jI v26, jR (some a40)]) (by rw [e41]) ?_
  obtain ⟨u42, e43, e⟩ := jbind e
  obtain ⟨h44, e45, e⟩ := jbind e
  refine ey_cv (s0 := [jI v38, jI 0, jI v36, jI v26, jR (some a40)]) (s1 := []) (st' := []) (cd_62 rfl) mt_62 mt_28 rfl rfl rfl (jck_s e43) rfl (jsml_s rfl) rfl (mm_Runs.up (d := 2) (by decide) (ok_28 e45)) ?_
  refine ey_aload_n (cd_62 rfl) g0 ?_
  obtain ⟨v46, e47, e⟩ := jbind e
  refine ey_getf_i (cd_62 rfl) mt_62 rfl rfl rfl e47 ?_
  refine ey_iconst (cd_62 rfl) ?_
  refine ey_isub (cd_62 rfl) ?_
  refine ey_istore_n (cd_62 rfl) mt_62 rfl ?_
  obtain ⟨x90, e91, e⟩ := jbind e
  refine jk_62_l64 e91 ?_ (jup lv 2 (jI (v46 - 1))) g0 (jup_pr (lv := lv) (j := 1) (v := jI (v46 - 1)) (z := p0) g1) rfl
  intro lv 
  cases e
  exact ey_retv (cd_62 rfl) mt_62 rfl
theorem cd_66 {pc : Nat} {i : Instr × Nat} (h : mm_lk mm_c66 pc = some i) : mm_cd 66 pc = some i := h
theorem mt_66 : mm_MT 66 = (4, 8, some .boolean, 1, 0, []) := rfl
set_option maxRecDepth 100000 in
theorem jk_66_s85 {L : Nat} {xs : Nat → Int32} {this : Nat} {x1 : Option Nat} {x2 : Int} {x3 : Int} {x4 : Int} {x5 : Option Nat} {x6 : Int} {x7 : Int} {h : jH} {o : ((Int × Int × jH) ⊕ (Int × Int × jH))} {r : mm_R} (e : jd_66_s85 this x1 x2 x3 x4 x5 x6 x7 h = some o) (K : jsm (fun s => (∀ lv : jL, lv 0 = some (jR (some this)) → lv 1 = some (jR x1) → lv 2 = some (jI x2) → lv 3 = some (jI x3) → lv 4 = some (jI x4) → lv 5 = some (jR x5) → lv 6 = some (jI s.1) → lv 7 = some (jI s.2.1) → ey (mm_xt L xs) 5 66 85 lv [] s.2.2 r)) (fun x => (∀ lv : jL, lv 0 = some (jR (some this)) → lv 1 = some (jR x1) → lv 2 = some (jI x2) → lv 3 = some (jI x3) → lv 4 = some (jI x4) → lv 6 = some (jI x.1) → lv 7 = some (jI x.2.1) → ey (mm_xt L xs) 5 66 137 lv [] x.2.2 r)) o) : ∀ lv : jL, lv 0 = some (jR (some this)) → lv 1 = some (jR x1) → lv 2 = some (jI x2) → lv 3 = some (jI x3) → lv 4 = some (jI x4) → lv 5 = some (jR x5) → lv 6 = some (jI x6) → lv 7 = some (jI x7) → ey (mm_xt L xs) 5 66 85 lv [] h r := by
  intro lv f0 f1 f2 f3 f4 f5 f6 f7
  unfold jd_66_s85 at e
  refine ey_iload_n (cd_66 rfl) f2 ?_
  by_cases q54 : (jw x2) ≤ 0
  · rw [if_pos q54] at e
    refine ey_zle (cd_66 rfl) rfl rfl q54 ?_
    cases e
    exact K lv f0 f1 f2 f3 f4 f6 f7
  · rw [if_neg q54] at e
    refine ey_yle (cd_66 rfl) rfl rfl q54 ?_
    refine ey_bipush (cd_66 rfl) (by decide) ?_
    refine ey_iload (cd_66 rfl) f7 ?_
    refine ey_imul (cd_66 rfl) ?_
    refine ey_iload_n (cd_66 rfl) f3 ?_
    by_cases q55 : (jw (8 * x7)) ≤ (jw x3)
    · rw [if_pos q55] at e
      refine ey_cle (cd_66 rfl) rfl rfl rfl q55 ?_
      cases e
      exact K lv f0 f1 f2 f3 f4 f6 f7
    · rw [if_neg q55] at e
      refine ey_nle (cd_66 rfl) rfl rfl rfl q55 ?_
      refine ey_iload (cd_66 rfl) f6 ?_
      refine ey_bipush (cd_66 rfl) (by decide) ?_
      by_cases q56 : 31 ≤ (jw x6)
      · rw [if_pos q56] at e
        refine ey_cge (cd_66 rfl) rfl rfl (show jw 31 = 31 from by decide) q56 ?_
        cases e
        exact K lv f0 f1 f2 f3 f4 f6 f7
      · rw [if_neg q56] at e
        refine ey_nge (cd_66 rfl) rfl rfl (show jw 31 = 31 from by decide) q56 ?_
        refine ey_iinc (cd_66 rfl) mt_66 rfl f6 ?_
        refine ey_aload_n (cd_66 rfl) f0 ?_
        obtain ⟨r57, e58, e⟩ := jbind e
        refine ey_getf_r (cd_66 rfl) mt_66 rfl rfl rfl e58 ?_
        refine ey_aload_n (cd_66 rfl) f0 ?_
        obtain ⟨r59, e60, e⟩ := jbind e
        refine ey_getf_r (cd_66 rfl) mt_66 rfl rfl rfl e60 ?_
        refine ey_aload_n (cd_66 rfl) f1 ?_
        refine ey_iload (cd_66 rfl) f4 ?_
        refine ey_aload (cd_66 rfl) (jup_pr (lv := lv) (j := 5) (v := jI (x6 + 1)) (z := x5) f5) ?_
        refine ey_iload (cd_66 rfl) rfl ?_
        refine ey_aload_n (cd_66 rfl) f0 ?_
        obtain ⟨r61, e62, e⟩ := jbind e
        refine ey_getf_r (cd_66 rfl) mt_66 rfl rfl rfl e62 ?_
        refine ey_iconst (cd_66 rfl) ?_
        obtain ⟨a63, e64, e⟩ := jbind e
        refine ey_rs (s0 := [jI 3, jR r61, jI (x6 + 1), jR x5, jI x4, jR x1, jR r59, jR r57]) (s1 := [jI 3, jR (some a63), jI (x6 + 1), jR x5, jI x4, jR x1, jR r59, jR r57]) (by rw [e64]) ?_
        obtain ⟨v65, e66, e⟩ := jbind e
        refine ey_iald (cd_66 rfl) e66 ?_
        obtain ⟨a67, e68, e⟩ := jbind e
        refine ey_rs (s0 := [jI v65, jI (x6 + 1), jR x5, jI x4, jR x1, jR r59, jR r57]) (s1 := [jI v65, jI (x6 + 1), jR x5, jI x4, jR x1, jR r59, jR (some a67)]) (by rw [e68]) ?_
        obtain ⟨u69, e70, e⟩ := jbind e
        obtain ⟨q71, e72, e⟩ := jbind e
        refine ey_cv (s0 := [jI v65, jI (x6 + 1), jR x5, jI x4, jR x1, jR r59, jR (some a67)]) (s1 := []) (st' := [jI q71.1]) (cd_66 rfl) mt_66 mt_16 rfl rfl rfl (jck_s e70) rfl (jsml_s rfl) rfl (ok_16 e72) ?_
        refine ey_istore (cd_66 rfl) mt_66 rfl ?_
        refine ey_goto (cd_66 rfl) rfl ?_
        cases e
        exact K (jup (jup lv 6 (jI (x6 + 1))) 7 (jI q71.1)) f0 f1 f2 f3 f4 (jup_o rfl (jup_pr (lv := lv) (j := 5) (v := jI (x6 + 1)) (z := x5) f5)) (jup_pi (lv := (jup lv 6 (jI (x6 + 1)))) (j := 6) (v := jI q71.1) (z := (x6 + 1)) rfl) rfl
theorem jk_66_l85 {L : Nat} {xs : Nat → Int32} {this : Nat} {x1 : Option Nat} {x2 : Int} {x3 : Int} {x4 : Int} {x5 : Option Nat} {x6 : Int} {x7 : Int} {h : jH} {x : (Int × Int × jH)} {r : mm_R} (e : jd_66_l85 this x1 x2 x3 x4 x5 x6 x7 h = some x) (K : (∀ lv : jL, lv 0 = some (jR (some this)) → lv 1 = some (jR x1) → lv 2 = some (jI x2) → lv 3 = some (jI x3) → lv 4 = some (jI x4) → lv 6 = some (jI x.1) → lv 7 = some (jI x.2.1) → ey (mm_xt L xs) 5 66 137 lv [] x.2.2 r)) : ∀ lv : jL, lv 0 = some (jR (some this)) → lv 1 = some (jR x1) → lv 2 = some (jI x2) → lv 3 = some (jI x3) → lv 4 = some (jI x4) → lv 5 = some (jR x5) → lv 6 = some (jI x6) → lv 7 = some (jI x7) → ey (mm_xt L xs) 5 66 85 lv [] h r := by
  unfold jd_66_l85 at e
  exact jlp_ok2 (P := fun s => ∀ lv : jL, lv 0 = some (jR (some this)) → lv 1 = some (jR x1) → lv 2 = some (jI x2) → lv 3 = some (jI x3) → lv 4 = some (jI x4) → lv 5 = some (jR x5) → lv 6 = some (jI s.1) → lv 7 = some (jI s.2.1) → ey (mm_xt L xs) 5 66 85 lv [] s.2.2 r) (Q := fun x => (∀ lv : jL, lv 0 = some (jR (some this)) → lv 1 = some (jR x1) → lv 2 = some (jI x2) → lv 3 = some (jI x3) → lv 4 = some (jI x4) → lv 6 = some (jI x.1) → lv 7 = some (jI x.2.1) → ey (mm_xt L xs) 5 66 137 lv [] x.2.2 r)) (fun s q hq hk => jk_66_s85 hq hk) jfu _ x e K
set_option maxRecDepth 100000 in
theorem jk_66_b150 {L : Nat} {xs : Nat → Int32} {this : Nat} {x1 : Option Nat} {x2 : Int} {x3 : Int} {x4 : Int} {x6 : Int} {x7 : Int} {h : jH} {o : ((Int × Int × jH) ⊕ (jH ⊕ jH))} {r : mm_R} (e : jd_66_b150 this x1 x2 x3 x4 x6 x7 h = some o) (K : jsm (fun s => (∀ lv : jL, lv 0 = some (jR (some this)) → lv 1 = some (jR x1) → lv 2 = some (jI x2) → lv 3 = some (jI s.1) → lv 4 = some (jI s.2.1) → ey (mm_xt L xs) 5 66 14 lv [] s.2.2 r)) (fun x => (jsm (fun y => (∀ lv : jL, ey (mm_xt L xs) 5 66 158 lv [] y r)) (fun z => (∀ lv : jL, ey (mm_xt L xs) 5 66 192 lv [] z r)) x)) o) : ∀ lv : jL, lv 0 = some (jR (some this)) → lv 1 = some (jR x1) → lv 2 = some (jI x2) → lv 3 = some (jI x3) → lv 4 = some (jI x4) → lv 6 = some (jI x6) → lv 7 = some (jI x7) → ey (mm_xt L xs) 5 66 150 lv [] h r := by
  intro lv f0 f1 f2 f3 f4 f6 f7
  unfold jd_66_b150 at e
  refine ey_iload (cd_66 rfl) f7 ?_
  refine ey_sipush (cd_66 rfl) (by decide) ?_
  by_cases q76 : (jw x7) ≤ 2000
  · rw [if_pos q76] at e
    refine ey_cle (cd_66 rfl) rfl rfl (show jw 2000 = 2000 from by decide) q76 ?_
    refine ey_iload_n (cd_66 rfl) f3 ?_
    refine ey_bipush (cd_66 rfl) (by decide) ?_
    refine ey_iload (cd_66 rfl) f7 ?_
    refine ey_imul (cd_66 rfl) ?_
    refine ey_isub (cd_66 rfl) ?_
    refine ey_istore_n (cd_66 rfl) mt_66 rfl ?_
    refine ey_aload_n (cd_66 rfl) f1 ?_
    refine ey_iload (cd_66 rfl) f4 ?_
    refine ey_iload (cd_66 rfl) f6 ?_
    refine ey_aload_n (cd_66 rfl) f0 ?_
    obtain ⟨r77, e78, e⟩ := jbind e
    refine ey_getf_r (cd_66 rfl) mt_66 rfl rfl rfl e78 ?_
    obtain ⟨a79, e80, e⟩ := jbind e
    refine ey_rs (s0 := [jR r77, jI x6, jI x4, jR x1]) (s1 := [jR (some a79), jI x6, jI x4, jR x1]) (by rw [e80]) ?_
    obtain ⟨r81, e82, e⟩ := jbind e
    refine ey_getf_r (cd_66 rfl) mt_66 rfl rfl rfl e82 ?_
    refine ey_iconst (cd_66 rfl) ?_
    refine ey_iload (cd_66 rfl) f7 ?_
    obtain ⟨a83, e84, e⟩ := jbind e
    refine ey_rs (s0 := [jI x7, jI 0, jR r81, jI x6, jI x4, jR x1]) (s1 := [jI x7, jI 0, jR r81, jI x6, jI x4, jR (some a83)]) (by rw [e84]) ?_
    obtain ⟨u85, e86, e⟩ := jbind e
    obtain ⟨h87, e88, e⟩ := jbind e
    refine ey_cv (s0 := [jI x7, jI 0, jR r81, jI x6, jI x4, jR (some a83)]) (s1 := []) (st' := []) (cd_66 rfl) mt_66 mt_27 rfl rfl rfl (jck_s e86) rfl (jsml_s rfl) rfl (mm_Runs.up (d := 3) (by decide) (ok_27 e88)) ?_
    refine ey_iinc (cd_66 rfl) mt_66 rfl f4 ?_
    refine ey_goto (cd_66 rfl) rfl ?_
    cases e
    exact K (jup (jup lv 3 (jI (x3 - (8 * x7)))) 4 (jI (x4 + 1))) f0 f1 (jup_o rfl (jup_pi (lv := lv) (j := 2) (v := jI (x3 - (8 * x7))) (z := x2) f2)) (jup_pi (lv := (jup lv 3 (jI (x3 - (8 * x7))))) (j := 3) (v := jI (x4 + 1)) (z := (x3 - (8 * x7))) rfl) rfl
  · rw [if_neg q76] at e
    refine ey_nle (cd_66 rfl) rfl rfl (show jw 2000 = 2000 from by decide) q76 ?_
    cases e
    exact K lv 
set_option maxRecDepth 100000 in
theorem jk_66_s14 {L : Nat} {xs : Nat → Int32} {this : Nat} {x1 : Option Nat} {x2 : Int} {x3 : Int} {x4 : Int} {h : jH} {o : ((Int × Int × jH) ⊕ (jH ⊕ jH))} {r : mm_R} (e : jd_66_s14 this x1 x2 x3 x4 h = some o) (K : jsm (fun s => (∀ lv : jL, lv 0 = some (jR (some this)) → lv 1 = some (jR x1) → lv 2 = some (jI x2) → lv 3 = some (jI s.1) → lv 4 = some (jI s.2.1) → ey (mm_xt L xs) 5 66 14 lv [] s.2.2 r)) (fun x => (jsm (fun y => (∀ lv : jL, ey (mm_xt L xs) 5 66 158 lv [] y r)) (fun z => (∀ lv : jL, ey (mm_xt L xs) 5 66 192 lv [] z r)) x)) o) : ∀ lv : jL, lv 0 = some (jR (some this)) → lv 1 = some (jR x1) → lv 2 = some (jI x2) → lv 3 = some (jI x3) → lv 4 = some (jI x4) → ey (mm_xt L xs) 5 66 14 lv [] h r := by
  intro lv f0 f1 f2 f3 f4
  unfold jd_66_s14 at e
  refine ey_iload (cd_66 rfl) f4 ?_
  refine ey_aload_n (cd_66 rfl) f0 ?_
  obtain ⟨v7, e8, e⟩ := jbind e
  refine ey_getf_i (cd_66 rfl) mt_66 rfl rfl rfl e8 ?_
  by_cases q9 : (jw v7) ≤ (jw x4)
  · rw [if_pos q9] at e
    refine ey_cge (cd_66 rfl) rfl rfl rfl q9 ?_
    cases e
    exact K lv 
  · rw [if_neg q9] at e
    refine ey_nge (cd_66 rfl) rfl rfl rfl q9 ?_
    refine ey_iload_n (cd_66 rfl) f2 ?_
    refine ey_iload_n (cd_66 rfl) f3 ?_
    refine ey_aload_n (cd_66 rfl) f0 ?_
    obtain ⟨r10, e11, e⟩ := jbind e
    refine ey_getf_r (cd_66 rfl) mt_66 rfl rfl rfl e11 ?_
    refine ey_bipush (cd_66 rfl) (by decide) ?_
    obtain ⟨a12, e13, e⟩ := jbind e
    refine ey_rs (s0 := [jI 6, jR r10, jI x3, jI x2]) (s1 := [jI 6, jR (some a12), jI x3, jI x2]) (by rw [e13]) ?_
    obtain ⟨v14, e15, e⟩ := jbind e
    refine ey_iald (cd_66 rfl) e15 ?_
    refine ey_iadd (cd_66 rfl) ?_
    refine ey_min (cd_66 rfl) mt_66 rfl (jsml_s rfl) ?_
    obtain ⟨z16, e17, e⟩ := jbind e
    refine ey_rs (s0 := [jI (if jw (x3 + v14) < jw x2 then (x3 + v14) else x2)]) (s1 := [jI z16]) (by rw [show (if jw (x3 + v14) < jw x2 then (x3 + v14) else x2) = z16 from Option.some.inj e17]) ?_
    refine ey_istore_n (cd_66 rfl) mt_66 rfl ?_
    refine ey_aload_n (cd_66 rfl) f0 ?_
    obtain ⟨r18, e19, e⟩ := jbind e
    refine ey_getf_r (cd_66 rfl) mt_66 rfl rfl rfl e19 ?_
    refine ey_aload_n (cd_66 rfl) f1 ?_
    obtain ⟨a20, e21, e⟩ := jbind e
    refine ey_rs (s0 := [jR x1, jR r18]) (s1 := [jR (some a20), jR r18]) (by rw [e21]) ?_
    obtain ⟨r22, e23, e⟩ := jbind e
    refine ey_getf_r (cd_66 rfl) mt_66 rfl rfl rfl e23 ?_
    refine ey_iload (cd_66 rfl) f4 ?_
    obtain ⟨a24, e25, e⟩ := jbind e
    refine ey_rs (s0 := [jI x4, jR r22, jR r18]) (s1 := [jI x4, jR (some a24), jR r18]) (by rw [e25]) ?_
    obtain ⟨v26, e27, e⟩ := jbind e
    refine ey_iald (cd_66 rfl) e27 ?_
    obtain ⟨a28, e29, e⟩ := jbind e
    refine ey_rs (s0 := [jI v26, jR r18]) (s1 := [jI v26, jR (some a28)]) (by rw [e29]) ?_
    obtain ⟨r30, e31, e⟩ := jbind e
    refine ey_aald (cd_66 rfl) (by decide) e31 ?_
    refine ey_astore (cd_66 rfl) mt_66 rfl ?_
    refine ey_aload_n (cd_66 rfl) f0 ?_
    obtain ⟨r32, e33, e⟩ := jbind e
    refine ey_getf_r (cd_66 rfl) mt_66 rfl rfl rfl e33 ?_
    refine ey_iconst (cd_66 rfl) ?_
    obtain ⟨a34, e35, e⟩ := jbind e
    refine ey_rs (s0 := [jI 4, jR r32]) (s1 := [jI 4, jR (some a34)]) (by rw [e35]) ?_
    obtain ⟨v36, e37, e⟩ := jbind e
    refine ey_iald (cd_66 rfl) e37 ?_
    refine ey_istore (cd_66 rfl) mt_66 rfl ?_
    refine ey_aload_n (cd_66 rfl) f0 ?_
    obtain ⟨r38, e39, e⟩ := jbind e
    refine ey_getf_r (cd_66 rfl) mt_66 rfl rfl rfl e39 ?_
    refine ey_aload_n (cd_66 rfl) f0 ?_
    obtain ⟨r40, e41, e⟩ := jbind e
    refine ey_getf_r (cd_66 rfl) mt_66 rfl rfl rfl e41 ?_
    refine ey_aload_n (cd_66 rfl) f1 ?_
    refine ey_iload (cd_66 rfl) (jup_o rfl (jup_pi (lv := (jup lv 3 (jI z16))) (j := 4) (v := jR r30) (z := x4) f4)) ?_
    refine ey_aload (cd_66 rfl) (jup_pr (lv := (jup (jup lv 3 (jI z16)) 5 (jR r30))) (j := 5) (v := jI v36) (z := r30) rfl) ?_
    refine ey_iload (cd_66 rfl) rfl ?_
    refine ey_aload_n (cd_66 rfl) f0 ?_
    obtain ⟨r42, e43, e⟩ := jbind e
    refine ey_getf_r (cd_66 rfl) mt_66 rfl rfl rfl e43 ?_
    refine ey_iconst (cd_66 rfl) ?_
    obtain ⟨a44, e45, e⟩ := jbind e
    refine ey_rs (s0 := [jI 3, jR r42, jI v36, jR r30, jI x4, jR x1, jR r40, jR r38]) (s1 := [jI 3, jR (some a44), jI v36, jR r30, jI x4, jR x1, jR r40, jR r38]) (by rw [e45]) ?_
    obtain ⟨v46, e47, e⟩ := jbind e
    refine ey_iald (cd_66 rfl) e47 ?_
    obtain ⟨a48, e49, e⟩ := jbind e
    refine ey_rs (s0 := [jI v46, jI v36, jR r30, jI x4, jR x1, jR r40, jR r38]) (s1 := [jI v46, jI v36, jR r30, jI x4, jR x1, jR r40, jR (some a48)]) (by rw [e49]) ?_
    obtain ⟨u50, e51, e⟩ := jbind e
    obtain ⟨q52, e53, e⟩ := jbind e
    refine ey_cv (s0 := [jI v46, jI v36, jR r30, jI x4, jR x1, jR r40, jR (some a48)]) (s1 := []) (st' := [jI q52.1]) (cd_66 rfl) mt_66 mt_16 rfl rfl rfl (jck_s e51) rfl (jsml_s rfl) rfl (ok_16 e53) ?_
    refine ey_istore (cd_66 rfl) mt_66 rfl ?_
    obtain ⟨x73, e74, e⟩ := jbind e
    refine jk_66_l85 e74 ?_ (jup (jup (jup (jup lv 3 (jI z16)) 5 (jR r30)) 6 (jI v36)) 7 (jI q52.1)) f0 f1 (jup_o rfl (jup_o rfl (jup_o rfl (jup_pi (lv := lv) (j := 2) (v := jI z16) (z := x2) f2)))) rfl (jup_o rfl (jup_o rfl (jup_pi (lv := (jup lv 3 (jI z16))) (j := 4) (v := jR r30) (z := x4) f4))) (jup_o rfl (jup_pr (lv := (jup (jup lv 3 (jI z16)) 5 (jR r30))) (j := 5) (v := jI v36) (z := r30) rfl)) (jup_pi (lv := (jup (jup (jup lv 3 (jI z16)) 5 (jR r30)) 6 (jI v36))) (j := 6) (v := jI q52.1) (z := v36) rfl) rfl
    intro lv g0 g1 g2 g3 g4 g6 g7
    refine ey_iload_n (cd_66 rfl) g2 ?_
    by_cases q75 : (jw x2) ≤ 0
    · rw [if_pos q75] at e
      refine ey_zle (cd_66 rfl) rfl rfl q75 ?_
      exact jk_66_b150 e K lv g0 g1 g2 g3 g4 g6 g7
    · rw [if_neg q75] at e
      refine ey_yle (cd_66 rfl) rfl rfl q75 ?_
      refine ey_bipush (cd_66 rfl) (by decide) ?_
      refine ey_iload (cd_66 rfl) g7 ?_
      refine ey_imul (cd_66 rfl) ?_
      refine ey_iload_n (cd_66 rfl) g3 ?_
      by_cases q89 : (jw z16) < (jw (8 * x73.2.1))
      · rw [if_pos q89] at e
        refine ey_cgt (cd_66 rfl) rfl rfl rfl q89 ?_
        cases e
        exact K lv 
      · rw [if_neg q89] at e
        refine ey_ngt (cd_66 rfl) rfl rfl rfl q89 ?_
        exact jk_66_b150 e K lv g0 g1 g2 g3 g4 g6 g7
theorem jk_66_l14 {L : Nat} {xs : Nat → Int32} {this : Nat} {x1 : Option Nat} {x2 : Int} {x3 : Int} {x4 : Int} {h : jH} {x : (jH ⊕ jH)} {r : mm_R} (e : jd_66_l14 this x1 x2 x3 x4 h = some x) (K : (jsm (fun y => (∀ lv : jL, ey (mm_xt L xs) 5 66 158 lv [] y r)) (fun z => (∀ lv : jL, ey (mm_xt L xs) 5 66 192 lv [] z r)) x)) : ∀ lv : jL, lv 0 = some (jR (some this)) → lv 1 = some (jR x1) → lv 2 = some (jI x2) → lv 3 = some (jI x3) → lv 4 = some (jI x4) → ey (mm_xt L xs) 5 66 14 lv [] h r := by
  unfold jd_66_l14 at e
  exact jlp_ok2 (P := fun s => ∀ lv : jL, lv 0 = some (jR (some this)) → lv 1 = some (jR x1) → lv 2 = some (jI x2) → lv 3 = some (jI s.1) → lv 4 = some (jI s.2.1) → ey (mm_xt L xs) 5 66 14 lv [] s.2.2 r) (Q := fun x => (jsm (fun y => (∀ lv : jL, ey (mm_xt L xs) 5 66 158 lv [] y r)) (fun z => (∀ lv : jL, ey (mm_xt L xs) 5 66 192 lv [] z r)) x)) (fun s q hq hk => jk_66_s14 hq hk) jfu _ x e K
set_option maxRecDepth 100000 in
theorem ok_66 {L : Nat} {xs : Nat → Int32} {this : Nat} {p0 : Option Nat} {h : jH} {o : (Int × jH)} (e : jd_66 this p0 h = some o) : mm_Runs (mm_xt L xs) 6 66 ([jR (some this), jR p0].map jcv) (jaH h) (.inl (some (jcv (jI o.1)), jaH o.2)) := by
  refine ey_run0 _ mt_66 (jsl_s rfl) ?_
  unfold jd_66 at e
  refine ey_aload_n (cd_66 rfl) rfl ?_
  obtain ⟨r1, e2, e⟩ := jbind e
  refine ey_getf_r (cd_66 rfl) mt_66 rfl rfl rfl e2 ?_
  refine ey_iconst (cd_66 rfl) ?_
  obtain ⟨a3, e4, e⟩ := jbind e
  refine ey_rs (s0 := [jI 5, jR r1]) (s1 := [jI 5, jR (some a3)]) (by rw [e4]) ?_
  obtain ⟨v5, e6, e⟩ := jbind e
  refine ey_iald (cd_66 rfl) e6 ?_
  refine ey_istore_n (cd_66 rfl) mt_66 rfl ?_
  refine ey_iload_n (cd_66 rfl) rfl ?_
  refine ey_iconst (cd_66 rfl) ?_
  refine ey_idiv (cd_66 rfl) (by decide) ?_
  refine ey_istore_n (cd_66 rfl) mt_66 rfl ?_
  refine ey_iconst (cd_66 rfl) ?_
  refine ey_istore (cd_66 rfl) mt_66 rfl ?_
  obtain ⟨x90, e91, e⟩ := jbind e
  refine jk_66_l14 e91 ?_ (jup (jup (jup (jlf (jla 0 [jR (some this), jR p0])) 2 (jI v5)) 3 (jI (jdiv v5 2))) 4 (jI 0)) rfl (jup_o rfl (jup_o rfl (jup_pr (lv := (jlf (jla 0 [jR (some this), jR p0]))) (j := 1) (v := jI v5) (z := p0) rfl))) (jup_o rfl (jup_pi (lv := (jup (jlf (jla 0 [jR (some this), jR p0])) 2 (jI v5))) (j := 2) (v := jI (jdiv v5 2)) (z := v5) rfl)) (jup_pi (lv := (jup (jup (jlf (jla 0 [jR (some this), jR p0])) 2 (jI v5)) 3 (jI (jdiv v5 2)))) (j := 3) (v := jI 0) (z := (jdiv v5 2)) rfl) rfl
  cases x90 with
  | inl y92 =>
    replace e : (some (0, y92) : Option (Int × jH)) = some o := e
    intro lv 
    refine ey_iconst (cd_66 rfl) ?_
    cases e
    exact ey_retz (cd_66 rfl) mt_66 rfl (Or.inl rfl)
  | inr y93 =>
    replace e : (some (1, y93) : Option (Int × jH)) = some o := e
    intro lv 
    refine ey_iconst (cd_66 rfl) ?_
    cases e
    exact ey_retz (cd_66 rfl) mt_66 rfl (Or.inr rfl)
theorem cd_129 {pc : Nat} {i : Instr × Nat} (h : mm_lk mm_c129 pc = some i) : mm_cd 129 pc = some i := h
theorem mt_129 : mm_MT 129 = (9, 5, none, 4, 0, []) := rfl
set_option maxRecDepth 100000 in
theorem jk_129_b33 {L : Nat} {xs : Nat → Int32} {this : Nat}  {h : jH} {o : jH} (e : jd_129_b33 this  h = some o) : ∀ lv : jL, ey (mm_xt L xs) 0 129 33 lv [] h (.inl (none, jaH o)) := by
  intro lv 
  unfold jd_129_b33 at e
  cases e
  exact ey_retv (cd_129 rfl) mt_129 rfl
set_option maxRecDepth 100000 in
theorem ok_129 {L : Nat} {xs : Nat → Int32} {this : Nat} {p0 : Int} {p1 : Int} {p2 : Int} {p3 : Int} {h : jH} {o : jH} (e : jd_129 this p0 p1 p2 p3 h = some o) : mm_Runs (mm_xt L xs) 1 129 ([jR (some this), jI p0, jI p1, jI p2, jI p3].map jcv) (jaH h) (.inl (none, jaH o)) := by
  refine ey_run0 _ mt_129 (jsl_s rfl) ?_
  unfold jd_129 at e
  refine ey_iload (cd_129 rfl) rfl ?_
  refine ey_aload_n (cd_129 rfl) rfl ?_
  obtain ⟨r1, e2, e⟩ := jbind e
  refine ey_getf_r (cd_129 rfl) mt_129 rfl rfl rfl e2 ?_
  refine ey_iload_n (cd_129 rfl) rfl ?_
  obtain ⟨a3, e4, e⟩ := jbind e
  refine ey_rs (s0 := [jI p0, jR r1, jI p3]) (s1 := [jI p0, jR (some a3), jI p3]) (by rw [e4]) ?_
  obtain ⟨v5, e6, e⟩ := jbind e
  refine ey_iald (cd_129 rfl) e6 ?_
  by_cases q7 : (jw v5) ≤ (jw p3)
  · rw [if_pos q7] at e
    refine ey_cge (cd_129 rfl) rfl rfl rfl q7 ?_
    exact jk_129_b33 e (jlf (jla 0 [jR (some this), jI p0, jI p1, jI p2, jI p3])) 
  · rw [if_neg q7] at e
    refine ey_nge (cd_129 rfl) rfl rfl rfl q7 ?_
    refine ey_aload_n (cd_129 rfl) rfl ?_
    obtain ⟨r8, e9, e⟩ := jbind e
    refine ey_getf_r (cd_129 rfl) mt_129 rfl rfl rfl e9 ?_
    refine ey_iload_n (cd_129 rfl) rfl ?_
    refine ey_iload (cd_129 rfl) rfl ?_
    obtain ⟨a10, e11, e⟩ := jbind e
    refine ey_rs (s0 := [jI p3, jI p0, jR r8]) (s1 := [jI p3, jI p0, jR (some a10)]) (by rw [e11]) ?_
    obtain ⟨h12, e13, e⟩ := jbind e
    refine ey_iast (cd_129 rfl) e13 ?_
    refine ey_aload_n (cd_129 rfl) rfl ?_
    obtain ⟨r14, e15, e⟩ := jbind e
    refine ey_getf_r (cd_129 rfl) mt_129 rfl rfl rfl e15 ?_
    refine ey_iload_n (cd_129 rfl) rfl ?_
    refine ey_iload_n (cd_129 rfl) rfl ?_
    obtain ⟨a16, e17, e⟩ := jbind e
    refine ey_rs (s0 := [jI p1, jI p0, jR r14]) (s1 := [jI p1, jI p0, jR (some a16)]) (by rw [e17]) ?_
    obtain ⟨h18, e19, e⟩ := jbind e
    refine ey_iast (cd_129 rfl) e19 ?_
    refine ey_aload_n (cd_129 rfl) rfl ?_
    obtain ⟨r20, e21, e⟩ := jbind e
    refine ey_getf_r (cd_129 rfl) mt_129 rfl rfl rfl e21 ?_
    refine ey_iload_n (cd_129 rfl) rfl ?_
    refine ey_iload_n (cd_129 rfl) rfl ?_
    obtain ⟨a22, e23, e⟩ := jbind e
    refine ey_rs (s0 := [jI p2, jI p0, jR r20]) (s1 := [jI p2, jI p0, jR (some a22)]) (by rw [e23]) ?_
    obtain ⟨h24, e25, e⟩ := jbind e
    refine ey_iast (cd_129 rfl) e25 ?_
    exact jk_129_b33 e (jlf (jla 0 [jR (some this), jI p0, jI p1, jI p2, jI p3])) 
theorem cd_128 {pc : Nat} {i : Instr × Nat} (h : mm_lk mm_c128 pc = some i) : mm_cd 128 pc = some i := h
theorem mt_128 : mm_MT 128 = (9, 9, none, 4, 0, []) := rfl
set_option maxRecDepth 100000 in
theorem jk_128_s6 {L : Nat} {xs : Nat → Int32} {this : Nat} {x1 : Int} {x2 : Int} {x4 : Int} {x5 : Int} {x6 : Int} {h : jH} {o : ((Int × Int × jH) ⊕ jH)} {r : mm_R} (e : jd_128_s6 this x1 x2 x4 x5 x6 h = some o) (K : jsm (fun s => (∀ lv : jL, lv 0 = some (jR (some this)) → lv 1 = some (jI x1) → lv 2 = some (jI x2) → lv 4 = some (jI x4) → lv 5 = some (jI s.1) → lv 6 = some (jI s.2.1) → ey (mm_xt L xs) 1 128 6 lv [] s.2.2 r)) (fun x => (∀ lv : jL, ey (mm_xt L xs) 1 128 75 lv [] x r)) o) : ∀ lv : jL, lv 0 = some (jR (some this)) → lv 1 = some (jI x1) → lv 2 = some (jI x2) → lv 4 = some (jI x4) → lv 5 = some (jI x5) → lv 6 = some (jI x6) → ey (mm_xt L xs) 1 128 6 lv [] h r := by
  intro lv f0 f1 f2 f4 f5 f6
  unfold jd_128_s6 at e
  refine ey_iload (cd_128 rfl) f6 ?_
  refine ey_bipush (cd_128 rfl) (by decide) ?_
  by_cases q1 : 12 ≤ (jw x6)
  · rw [if_pos q1] at e
    refine ey_cge (cd_128 rfl) rfl rfl (show jw 12 = 12 from by decide) q1 ?_
    cases e
    exact K lv 
  · rw [if_neg q1] at e
    refine ey_nge (cd_128 rfl) rfl rfl (show jw 12 = 12 from by decide) q1 ?_
    refine ey_iload (cd_128 rfl) f5 ?_
    by_cases q2 : (jw x5) ≤ 0
    · rw [if_pos q2] at e
      refine ey_zle (cd_128 rfl) rfl rfl q2 ?_
      cases e
      exact K lv 
    · rw [if_neg q2] at e
      refine ey_yle (cd_128 rfl) rfl rfl q2 ?_
      refine ey_iload (cd_128 rfl) f5 ?_
      refine ey_iconst (cd_128 rfl) ?_
      refine ey_isub (cd_128 rfl) ?_
      obtain ⟨v3, e4, e⟩ := jbind e
      refine ey_cs (s0 := [jI (x5 - 1)]) (s1 := []) (st' := [jI v3]) (cd_128 rfl) mt_128 mt_11 rfl (by decide) rfl rfl (jsml_s rfl) rfl (ok_11 e4) ?_
      refine ey_istore (cd_128 rfl) mt_128 rfl ?_
      refine ey_iload_n (cd_128 rfl) f2 ?_
      obtain ⟨v5, e6, e⟩ := jbind e
      refine ey_cs (s0 := [jI x2]) (s1 := []) (st' := [jI v5]) (cd_128 rfl) mt_128 mt_11 rfl (by decide) rfl rfl (jsml_s rfl) rfl (ok_11 e6) ?_
      refine ey_iload (cd_128 rfl) rfl ?_
      refine ey_iadd (cd_128 rfl) ?_
      refine ey_iload (cd_128 rfl) f4 ?_
      refine ey_iadd (cd_128 rfl) ?_
      refine ey_aload_n (cd_128 rfl) f0 ?_
      obtain ⟨r7, e8, e⟩ := jbind e
      refine ey_getf_r (cd_128 rfl) mt_128 rfl rfl rfl e8 ?_
      refine ey_iload_n (cd_128 rfl) f1 ?_
      refine ey_iload (cd_128 rfl) f5 ?_
      refine ey_iadd (cd_128 rfl) ?_
      obtain ⟨a9, e10, e⟩ := jbind e
      refine ey_rs (s0 := [jI (x1 + x5), jR r7, jI ((v5 + v3) + x4)]) (s1 := [jI (x1 + x5), jR (some a9), jI ((v5 + v3) + x4)]) (by rw [e10]) ?_
      obtain ⟨v11, e12, e⟩ := jbind e
      refine ey_iald (cd_128 rfl) e12 ?_
      refine ey_iadd (cd_128 rfl) ?_
      refine ey_istore (cd_128 rfl) mt_128 rfl ?_
      refine ey_aload_n (cd_128 rfl) f0 ?_
      refine ey_iload_n (cd_128 rfl) f1 ?_
      refine ey_iload_n (cd_128 rfl) f2 ?_
      refine ey_iload (cd_128 rfl) f5 ?_
      refine ey_iload (cd_128 rfl) rfl ?_
      obtain ⟨u13, e14, e⟩ := jbind e
      obtain ⟨h15, e16, e⟩ := jbind e
      refine ey_cv (s0 := [jI (((v5 + v3) + x4) + v11), jI x5, jI x2, jI x1, jR (some this)]) (s1 := []) (st' := []) (cd_128 rfl) mt_128 mt_129 rfl rfl rfl (jck_s e14) rfl (jsml_s rfl) rfl (ok_129 e16) ?_
      refine ey_iconst (cd_128 rfl) ?_
      refine ey_iload (cd_128 rfl) (jup_pi (lv := (jup lv 7 (jI v3))) (j := 7) (v := jI (((v5 + v3) + x4) + v11)) (z := v3) rfl) ?_
      refine ey_iconst (cd_128 rfl) ?_
      refine ey_idiv (cd_128 rfl) (by decide) ?_
      refine ey_ishl (cd_128 rfl) ?_
      refine ey_iconst (cd_128 rfl) ?_
      refine ey_isub (cd_128 rfl) ?_
      refine ey_istore (cd_128 rfl) mt_128 rfl ?_
      refine ey_iinc (cd_128 rfl) mt_128 rfl (jup_o rfl (jup_o rfl (jup_pi (lv := lv) (j := 6) (v := jI v3) (z := x6) f6))) ?_
      refine ey_goto (cd_128 rfl) rfl ?_
      cases e
      exact K (jup (jup (jup (jup lv 7 (jI v3)) 8 (jI (((v5 + v3) + x4) + v11))) 5 (jI ((jshl 1 (jdiv v3 2)) - 1))) 6 (jI (x6 + 1))) f0 f1 f2 (jup_o rfl (jup_pi (lv := (jup (jup lv 7 (jI v3)) 8 (jI (((v5 + v3) + x4) + v11)))) (j := 4) (v := jI ((jshl 1 (jdiv v3 2)) - 1)) (z := x4) f4)) (jup_pi (lv := (jup (jup (jup lv 7 (jI v3)) 8 (jI (((v5 + v3) + x4) + v11))) 5 (jI ((jshl 1 (jdiv v3 2)) - 1)))) (j := 5) (v := jI (x6 + 1)) (z := ((jshl 1 (jdiv v3 2)) - 1)) rfl) rfl
theorem jk_128_l6 {L : Nat} {xs : Nat → Int32} {this : Nat} {x1 : Int} {x2 : Int} {x4 : Int} {x5 : Int} {x6 : Int} {h : jH} {x : jH} {r : mm_R} (e : jd_128_l6 this x1 x2 x4 x5 x6 h = some x) (K : (∀ lv : jL, ey (mm_xt L xs) 1 128 75 lv [] x r)) : ∀ lv : jL, lv 0 = some (jR (some this)) → lv 1 = some (jI x1) → lv 2 = some (jI x2) → lv 4 = some (jI x4) → lv 5 = some (jI x5) → lv 6 = some (jI x6) → ey (mm_xt L xs) 1 128 6 lv [] h r := by
  unfold jd_128_l6 at e
  exact jlp_ok2 (P := fun s => ∀ lv : jL, lv 0 = some (jR (some this)) → lv 1 = some (jI x1) → lv 2 = some (jI x2) → lv 4 = some (jI x4) → lv 5 = some (jI s.1) → lv 6 = some (jI s.2.1) → ey (mm_xt L xs) 1 128 6 lv [] s.2.2 r) (Q := fun x => (∀ lv : jL, ey (mm_xt L xs) 1 128 75 lv [] x r)) (fun s q hq hk => jk_128_s6 hq hk) jfu _ x e K
set_option maxRecDepth 100000 in
theorem ok_128 {L : Nat} {xs : Nat → Int32} {this : Nat} {p0 : Int} {p1 : Int} {p2 : Int} {p3 : Int} {h : jH} {o : jH} (e : jd_128 this p0 p1 p2 p3 h = some o) : mm_Runs (mm_xt L xs) 2 128 ([jR (some this), jI p0, jI p1, jI p2, jI p3].map jcv) (jaH h) (.inl (none, jaH o)) := by
  refine ey_run0 _ mt_128 (jsl_s rfl) ?_
  unfold jd_128 at e
  refine ey_iload_n (cd_128 rfl) rfl ?_
  refine ey_istore (cd_128 rfl) mt_128 rfl ?_
  refine ey_iconst (cd_128 rfl) ?_
  refine ey_istore (cd_128 rfl) mt_128 rfl ?_
  obtain ⟨x17, e18, e⟩ := jbind e
  refine jk_128_l6 e18 ?_ (jup (jup (jlf (jla 0 [jR (some this), jI p0, jI p1, jI p2, jI p3])) 5 (jI p2)) 6 (jI 0)) rfl rfl rfl (jup_o rfl (jup_pi (lv := (jlf (jla 0 [jR (some this), jI p0, jI p1, jI p2, jI p3]))) (j := 4) (v := jI p2) (z := p3) rfl)) (jup_pi (lv := (jup (jlf (jla 0 [jR (some this), jI p0, jI p1, jI p2, jI p3])) 5 (jI p2))) (j := 5) (v := jI 0) (z := p2) rfl) rfl
  intro lv 
  cases e
  exact ey_retv (cd_128 rfl) mt_128 rfl
theorem cd_130 {pc : Nat} {i : Instr × Nat} (h : mm_lk mm_c130 pc = some i) : mm_cd 130 pc = some i := h
theorem mt_130 : mm_MT 130 = (9, 8, none, 2, 0, []) := rfl
set_option maxRecDepth 100000 in
theorem jk_130_b112 {L : Nat} {xs : Nat → Int32} {this : Nat} {x1 : Int} {x2 : Int} {x3 : Int} {x4 : Int} {x5 : Int} {h : jH} {o : ((Int × Int × Int) ⊕ ((Int × Int) ⊕ (Int × Int)))} {r : mm_R} (e : jd_130_b112 this x1 x2 x3 x4 x5 h = some o) (K : jsm (fun s => (∀ lv : jL, lv 0 = some (jR (some this)) → lv 1 = some (jI x1) → lv 2 = some (jI x2) → lv 3 = some (jI s.1) → lv 4 = some (jI s.2.1) → lv 5 = some (jI s.2.2) → ey (mm_xt L xs) 1 130 9 lv [] h r)) (fun x => (jsm (fun y => (∀ lv : jL, lv 0 = some (jR (some this)) → lv 1 = some (jI x1) → lv 3 = some (jI y.1) → lv 4 = some (jI y.2) → ey (mm_xt L xs) 1 130 80 lv [] h r)) (fun z => (∀ lv : jL, lv 0 = some (jR (some this)) → lv 1 = some (jI x1) → lv 3 = some (jI z.1) → lv 4 = some (jI z.2) → ey (mm_xt L xs) 1 130 118 lv [] h r)) x)) o) : ∀ lv : jL, lv 0 = some (jR (some this)) → lv 1 = some (jI x1) → lv 2 = some (jI x2) → lv 3 = some (jI x3) → lv 4 = some (jI x4) → lv 5 = some (jI x5) → ey (mm_xt L xs) 1 130 112 lv [] h r := by
  intro lv f0 f1 f2 f3 f4 f5
  unfold jd_130_b112 at e
  refine ey_iinc (cd_130 rfl) mt_130 rfl f5 ?_
  refine ey_goto (cd_130 rfl) rfl ?_
  cases e
  exact K (jup lv 5 (jI (x5 + 1))) f0 f1 f2 f3 (jup_pi (lv := lv) (j := 4) (v := jI (x5 + 1)) (z := x4) f4) rfl
set_option maxRecDepth 100000 in
theorem jk_130_b43 {L : Nat} {xs : Nat → Int32} {this : Nat} {x1 : Int} {x2 : Int} {x3 : Int} {x4 : Int} {x5 : Int} {x6 : Int} {h : jH} {o : ((Int × Int × Int) ⊕ ((Int × Int) ⊕ (Int × Int)))} {r : mm_R} (e : jd_130_b43 this x1 x2 x3 x4 x5 x6 h = some o) (K : jsm (fun s => (∀ lv : jL, lv 0 = some (jR (some this)) → lv 1 = some (jI x1) → lv 2 = some (jI x2) → lv 3 = some (jI s.1) → lv 4 = some (jI s.2.1) → lv 5 = some (jI s.2.2) → ey (mm_xt L xs) 1 130 9 lv [] h r)) (fun x => (jsm (fun y => (∀ lv : jL, lv 0 = some (jR (some this)) → lv 1 = some (jI x1) → lv 3 = some (jI y.1) → lv 4 = some (jI y.2) → ey (mm_xt L xs) 1 130 80 lv [] h r)) (fun z => (∀ lv : jL, lv 0 = some (jR (some this)) → lv 1 = some (jI x1) → lv 3 = some (jI z.1) → lv 4 = some (jI z.2) → ey (mm_xt L xs) 1 130 118 lv [] h r)) x)) o) : ∀ lv : jL, lv 0 = some (jR (some this)) → lv 1 = some (jI x1) → lv 2 = some (jI x2) → lv 3 = some (jI x3) → lv 4 = some (jI x4) → lv 5 = some (jI x5) → lv 6 = some (jI x6) → ey (mm_xt L xs) 1 130 43 lv [] h r := by
  intro lv f0 f1 f2 f3 f4 f5 f6
  unfold jd_130_b43 at e
  refine ey_iconst (cd_130 rfl) ?_
  obtain ⟨v3, e4, e⟩ := jbind e
  refine ey_cs (s0 := [jI 3]) (s1 := []) (st' := [jI v3]) (cd_130 rfl) mt_130 mt_11 rfl (by decide) rfl rfl (jsml_s rfl) rfl (ok_11 e4) ?_
  refine ey_iload (cd_130 rfl) f5 ?_
  refine ey_iconst (cd_130 rfl) ?_
  refine ey_isub (cd_130 rfl) ?_
  obtain ⟨v5, e6, e⟩ := jbind e
  refine ey_cs (s0 := [jI (x5 - 1), jI v3]) (s1 := [jI v3]) (st' := [jI v5, jI v3]) (cd_130 rfl) mt_130 mt_11 rfl (by decide) rfl rfl (jsml_s rfl) rfl (ok_11 e6) ?_
  refine ey_iadd (cd_130 rfl) ?_
  refine ey_bipush (cd_130 rfl) (by decide) ?_
  refine ey_iload (cd_130 rfl) f5 ?_
  refine ey_imul (cd_130 rfl) ?_
  refine ey_iadd (cd_130 rfl) ?_
  refine ey_istore (cd_130 rfl) mt_130 rfl ?_
  refine ey_iload (cd_130 rfl) rfl ?_
  refine ey_iload_n (cd_130 rfl) f3 ?_
  by_cases q7 : (jw x3) < (jw ((v3 + v5) + (8 * x5)))
  · rw [if_pos q7] at e
    refine ey_cgt (cd_130 rfl) rfl rfl rfl q7 ?_
    cases e
    exact K (jup lv 7 (jI ((v3 + v5) + (8 * x5)))) f0 f1 f3 f4
  · rw [if_neg q7] at e
    refine ey_ngt (cd_130 rfl) rfl rfl rfl q7 ?_
    refine ey_iload (cd_130 rfl) rfl ?_
    refine ey_aload_n (cd_130 rfl) f0 ?_
    obtain ⟨r8, e9, e⟩ := jbind e
    refine ey_getf_r (cd_130 rfl) mt_130 rfl rfl rfl e9 ?_
    refine ey_iload_n (cd_130 rfl) f1 ?_
    obtain ⟨a10, e11, e⟩ := jbind e
    refine ey_rs (s0 := [jI x1, jR r8, jI ((v3 + v5) + (8 * x5))]) (s1 := [jI x1, jR (some a10), jI ((v3 + v5) + (8 * x5))]) (by rw [e11]) ?_
    obtain ⟨v12, e13, e⟩ := jbind e
    refine ey_iald (cd_130 rfl) e13 ?_
    by_cases q14 : (jw ((v3 + v5) + (8 * x5))) ≤ (jw v12)
    · rw [if_pos q14] at e
      refine ey_cle (cd_130 rfl) rfl rfl rfl q14 ?_
      refine ey_iload (cd_130 rfl) rfl ?_
      refine ey_aload_n (cd_130 rfl) f0 ?_
      obtain ⟨r15, e16, e⟩ := jbind e
      refine ey_getf_r (cd_130 rfl) mt_130 rfl rfl rfl e16 ?_
      refine ey_iload (cd_130 rfl) (jup_pi (lv := lv) (j := 6) (v := jI ((v3 + v5) + (8 * x5))) (z := x6) f6) ?_
      obtain ⟨a17, e18, e⟩ := jbind e
      refine ey_rs (s0 := [jI x6, jR r15, jI ((v3 + v5) + (8 * x5))]) (s1 := [jI x6, jR (some a17), jI ((v3 + v5) + (8 * x5))]) (by rw [e18]) ?_
      obtain ⟨v19, e20, e⟩ := jbind e
      refine ey_iald (cd_130 rfl) e20 ?_
      refine ey_iadd (cd_130 rfl) ?_
      refine ey_iload_n (cd_130 rfl) f3 ?_
      by_cases q21 : (jw x3) < (jw (((v3 + v5) + (8 * x5)) + v19))
      · rw [if_pos q21] at e
        refine ey_cgt (cd_130 rfl) rfl rfl rfl q21 ?_
        exact jk_130_b112 e K (jup lv 7 (jI ((v3 + v5) + (8 * x5)))) f0 f1 f2 f3 f4 f5
      · rw [if_neg q21] at e
        refine ey_ngt (cd_130 rfl) rfl rfl rfl q21 ?_
        refine ey_iload (cd_130 rfl) rfl ?_
        refine ey_aload_n (cd_130 rfl) f0 ?_
        obtain ⟨r22, e23, e⟩ := jbind e
        refine ey_getf_r (cd_130 rfl) mt_130 rfl rfl rfl e23 ?_
        refine ey_iload (cd_130 rfl) (jup_pi (lv := lv) (j := 6) (v := jI ((v3 + v5) + (8 * x5))) (z := x6) f6) ?_
        obtain ⟨a24, e25, e⟩ := jbind e
        refine ey_rs (s0 := [jI x6, jR r22, jI ((v3 + v5) + (8 * x5))]) (s1 := [jI x6, jR (some a24), jI ((v3 + v5) + (8 * x5))]) (by rw [e25]) ?_
        obtain ⟨v26, e27, e⟩ := jbind e
        refine ey_iald (cd_130 rfl) e27 ?_
        refine ey_iadd (cd_130 rfl) ?_
        refine ey_istore_n (cd_130 rfl) mt_130 rfl ?_
        refine ey_iload (cd_130 rfl) f5 ?_
        refine ey_istore (cd_130 rfl) mt_130 rfl ?_
        exact jk_130_b112 e K (jup (jup (jup lv 7 (jI ((v3 + v5) + (8 * x5)))) 3 (jI (((v3 + v5) + (8 * x5)) + v26))) 4 (jI x5)) f0 f1 (jup_o rfl (jup_pi (lv := (jup lv 7 (jI ((v3 + v5) + (8 * x5))))) (j := 2) (v := jI (((v3 + v5) + (8 * x5)) + v26)) (z := x2) f2)) (jup_pi (lv := (jup (jup lv 7 (jI ((v3 + v5) + (8 * x5)))) 3 (jI (((v3 + v5) + (8 * x5)) + v26)))) (j := 3) (v := jI x5) (z := (((v3 + v5) + (8 * x5)) + v26)) rfl) rfl f5
    · rw [if_neg q14] at e
      refine ey_nle (cd_130 rfl) rfl rfl rfl q14 ?_
      cases e
      exact K (jup lv 7 (jI ((v3 + v5) + (8 * x5)))) f0 f1 f3 f4
set_option maxRecDepth 100000 in
theorem jk_130_s9 {L : Nat} {xs : Nat → Int32} {this : Nat} {x1 : Int} {x2 : Int} {x3 : Int} {x4 : Int} {x5 : Int} {h : jH} {o : ((Int × Int × Int) ⊕ ((Int × Int) ⊕ (Int × Int)))} {r : mm_R} (e : jd_130_s9 this x1 x2 x3 x4 x5 h = some o) (K : jsm (fun s => (∀ lv : jL, lv 0 = some (jR (some this)) → lv 1 = some (jI x1) → lv 2 = some (jI x2) → lv 3 = some (jI s.1) → lv 4 = some (jI s.2.1) → lv 5 = some (jI s.2.2) → ey (mm_xt L xs) 1 130 9 lv [] h r)) (fun x => (jsm (fun y => (∀ lv : jL, lv 0 = some (jR (some this)) → lv 1 = some (jI x1) → lv 3 = some (jI y.1) → lv 4 = some (jI y.2) → ey (mm_xt L xs) 1 130 80 lv [] h r)) (fun z => (∀ lv : jL, lv 0 = some (jR (some this)) → lv 1 = some (jI x1) → lv 3 = some (jI z.1) → lv 4 = some (jI z.2) → ey (mm_xt L xs) 1 130 118 lv [] h r)) x)) o) : ∀ lv : jL, lv 0 = some (jR (some this)) → lv 1 = some (jI x1) → lv 2 = some (jI x2) → lv 3 = some (jI x3) → lv 4 = some (jI x4) → lv 5 = some (jI x5) → ey (mm_xt L xs) 1 130 9 lv [] h r := by
  intro lv f0 f1 f2 f3 f4 f5
  unfold jd_130_s9 at e
  refine ey_iload (cd_130 rfl) f5 ?_
  refine ey_iload_n (cd_130 rfl) f2 ?_
  refine ey_iload_n (cd_130 rfl) f1 ?_
  refine ey_isub (cd_130 rfl) ?_
  by_cases q1 : (jw (x2 - x1)) < (jw x5)
  · rw [if_pos q1] at e
    refine ey_cgt (cd_130 rfl) rfl rfl rfl q1 ?_
    cases e
    exact K lv f0 f1 f3 f4
  · rw [if_neg q1] at e
    refine ey_ngt (cd_130 rfl) rfl rfl rfl q1 ?_
    refine ey_iload_n (cd_130 rfl) f1 ?_
    refine ey_iload (cd_130 rfl) f5 ?_
    refine ey_iadd (cd_130 rfl) ?_
    refine ey_istore (cd_130 rfl) mt_130 rfl ?_
    refine ey_iload (cd_130 rfl) rfl ?_
    refine ey_iload_n (cd_130 rfl) f2 ?_
    by_cases q2 : (jw x2) ≤ (jw (x1 + x5))
    · rw [if_pos q2] at e
      refine ey_cge (cd_130 rfl) rfl rfl rfl q2 ?_
      exact jk_130_b43 e K (jup lv 6 (jI (x1 + x5))) f0 f1 f2 f3 f4 (jup_pi (lv := lv) (j := 5) (v := jI (x1 + x5)) (z := x5) f5) rfl
    · rw [if_neg q2] at e
      refine ey_nge (cd_130 rfl) rfl rfl rfl q2 ?_
      refine ey_aload_n (cd_130 rfl) f0 ?_
      obtain ⟨r28, e29, e⟩ := jbind e
      refine ey_getf_r (cd_130 rfl) mt_130 rfl rfl rfl e29 ?_
      refine ey_iload (cd_130 rfl) rfl ?_
      obtain ⟨a30, e31, e⟩ := jbind e
      refine ey_rs (s0 := [jI (x1 + x5), jR r28]) (s1 := [jI (x1 + x5), jR (some a30)]) (by rw [e31]) ?_
      obtain ⟨v32, e33, e⟩ := jbind e
      refine ey_iald (cd_130 rfl) e33 ?_
      refine ey_iconst (cd_130 rfl) ?_
      by_cases q34 : (jw v32) = 3
      · rw [if_pos q34] at e
        refine ey_nne (cd_130 rfl) rfl rfl (show jw 3 = 3 from by decide) (fun w => w q34) ?_
        refine ey_goto (cd_130 rfl) rfl ?_
        exact jk_130_b112 e K (jup lv 6 (jI (x1 + x5))) f0 f1 f2 f3 f4 (jup_pi (lv := lv) (j := 5) (v := jI (x1 + x5)) (z := x5) f5)
      · rw [if_neg q34] at e
        refine ey_cne (cd_130 rfl) rfl rfl (show jw 3 = 3 from by decide) q34 ?_
        exact jk_130_b43 e K (jup lv 6 (jI (x1 + x5))) f0 f1 f2 f3 f4 (jup_pi (lv := lv) (j := 5) (v := jI (x1 + x5)) (z := x5) f5) rfl
theorem jk_130_l9 {L : Nat} {xs : Nat → Int32} {this : Nat} {x1 : Int} {x2 : Int} {x3 : Int} {x4 : Int} {x5 : Int} {h : jH} {x : ((Int × Int) ⊕ (Int × Int))} {r : mm_R} (e : jd_130_l9 this x1 x2 x3 x4 x5 h = some x) (K : (jsm (fun y => (∀ lv : jL, lv 0 = some (jR (some this)) → lv 1 = some (jI x1) → lv 3 = some (jI y.1) → lv 4 = some (jI y.2) → ey (mm_xt L xs) 1 130 80 lv [] h r)) (fun z => (∀ lv : jL, lv 0 = some (jR (some this)) → lv 1 = some (jI x1) → lv 3 = some (jI z.1) → lv 4 = some (jI z.2) → ey (mm_xt L xs) 1 130 118 lv [] h r)) x)) : ∀ lv : jL, lv 0 = some (jR (some this)) → lv 1 = some (jI x1) → lv 2 = some (jI x2) → lv 3 = some (jI x3) → lv 4 = some (jI x4) → lv 5 = some (jI x5) → ey (mm_xt L xs) 1 130 9 lv [] h r := by
  unfold jd_130_l9 at e
  exact jlp_ok2 (P := fun s => ∀ lv : jL, lv 0 = some (jR (some this)) → lv 1 = some (jI x1) → lv 2 = some (jI x2) → lv 3 = some (jI s.1) → lv 4 = some (jI s.2.1) → lv 5 = some (jI s.2.2) → ey (mm_xt L xs) 1 130 9 lv [] h r) (Q := fun x => (jsm (fun y => (∀ lv : jL, lv 0 = some (jR (some this)) → lv 1 = some (jI x1) → lv 3 = some (jI y.1) → lv 4 = some (jI y.2) → ey (mm_xt L xs) 1 130 80 lv [] h r)) (fun z => (∀ lv : jL, lv 0 = some (jR (some this)) → lv 1 = some (jI x1) → lv 3 = some (jI z.1) → lv 4 = some (jI z.2) → ey (mm_xt L xs) 1 130 118 lv [] h r)) x)) (fun s q hq hk => jk_130_s9 hq hk) jfu _ x e K
set_option maxRecDepth 100000 in
theorem jk_130_b132 {L : Nat} {xs : Nat → Int32} {this : Nat}  {h : jH} {o : jH} (e : jd_130_b132 this  h = some o) : ∀ lv : jL, ey (mm_xt L xs) 1 130 132 lv [] h (.inl (none, jaH o)) := by
  intro lv 
  unfold jd_130_b132 at e
  cases e
  exact ey_retv (cd_130 rfl) mt_130 rfl
set_option maxRecDepth 100000 in
theorem jk_130_b118 {L : Nat} {xs : Nat → Int32} {this : Nat} {x1 : Int} {x3 : Int} {x4 : Int} {h : jH} {o : jH} (e : jd_130_b118 this x1 x3 x4 h = some o) : ∀ lv : jL, lv 0 = some (jR (some this)) → lv 1 = some (jI x1) → lv 3 = some (jI x3) → lv 4 = some (jI x4) → ey (mm_xt L xs) 1 130 118 lv [] h (.inl (none, jaH o)) := by
  intro lv f0 f1 f3 f4
  unfold jd_130_b118 at e
  refine ey_iload (cd_130 rfl) f4 ?_
  by_cases q39 : (jw x4) ≤ 0
  · rw [if_pos q39] at e
    refine ey_zle (cd_130 rfl) rfl rfl q39 ?_
    exact jk_130_b132 e lv 
  · rw [if_neg q39] at e
    refine ey_yle (cd_130 rfl) rfl rfl q39 ?_
    refine ey_aload_n (cd_130 rfl) f0 ?_
    refine ey_iload_n (cd_130 rfl) f1 ?_
    refine ey_iconst (cd_130 rfl) ?_
    refine ey_iload (cd_130 rfl) f4 ?_
    refine ey_iload_n (cd_130 rfl) f3 ?_
    obtain ⟨u40, e41, e⟩ := jbind e
    obtain ⟨h42, e43, e⟩ := jbind e
    refine ey_cv (s0 := [jI x3, jI x4, jI 3, jI x1, jR (some this)]) (s1 := []) (st' := []) (cd_130 rfl) mt_130 mt_129 rfl rfl rfl (jck_s e41) rfl (jsml_s rfl) rfl (ok_129 e43) ?_
    exact jk_130_b132 e lv 
set_option maxRecDepth 100000 in
theorem ok_130 {L : Nat} {xs : Nat → Int32} {this : Nat} {p0 : Int} {p1 : Int} {h : jH} {o : jH} (e : jd_130 this p0 p1 h = some o) : mm_Runs (mm_xt L xs) 2 130 ([jR (some this), jI p0, jI p1].map jcv) (jaH h) (.inl (none, jaH o)) := by
  refine ey_run0 _ mt_130 (jsl_s rfl) ?_
  unfold jd_130 at e
  refine ey_ldc (z := 1000000) (cd_130 rfl) mt_130 rfl (by decide) ?_
  refine ey_istore_n (cd_130 rfl) mt_130 rfl ?_
  refine ey_iconst (cd_130 rfl) ?_
  refine ey_istore (cd_130 rfl) mt_130 rfl ?_
  refine ey_iconst (cd_130 rfl) ?_
  refine ey_istore (cd_130 rfl) mt_130 rfl ?_
  obtain ⟨x35, e36, e⟩ := jbind e
  refine jk_130_l9 e36 ?_ (jup (jup (jup (jlf (jla 0 [jR (some this), jI p0, jI p1])) 3 (jI 1000000)) 4 (jI 0)) 5 (jI 1)) rfl rfl (jup_o rfl (jup_o rfl (jup_pi (lv := (jlf (jla 0 [jR (some this), jI p0, jI p1]))) (j := 2) (v := jI 1000000) (z := p1) rfl))) (jup_o rfl (jup_pi (lv := (jup (jlf (jla 0 [jR (some this), jI p0, jI p1])) 3 (jI 1000000))) (j := 3) (v := jI 0) (z := 1000000) rfl)) (jup_pi (lv := (jup (jup (jlf (jla 0 [jR (some this), jI p0, jI p1])) 3 (jI 1000000)) 4 (jI 0))) (j := 4) (v := jI 1) (z := 0) rfl) rfl
  cases x35 with
  | inl y37 =>
    replace e : (jd_130_b118 this p0 y37.1 y37.2 h : Option jH) = some o := e
    intro lv g0 g1 g3 g4
    refine ey_goto (cd_130 rfl) rfl ?_
    exact jk_130_b118 e lv g0 g1 g3 g4
  | inr y38 =>
    replace e : (jd_130_b118 this p0 y38.1 y38.2 h : Option jH) = some o := e
    intro lv g0 g1 g3 g4
    exact jk_130_b118 e lv g0 g1 g3 g4
theorem cd_127 {pc : Nat} {i : Instr × Nat} (h : mm_lk mm_c127 pc = some i) : mm_cd 127 pc = some i := h
theorem mt_127 : mm_MT 127 = (9, 13, none, 3, 0, []) := rfl
set_option maxRecDepth 100000 in
theorem jk_127_b162 {L : Nat} {xs : Nat → Int32} {this : Nat} {x3 : Option Nat} {x4 : Int} {x5 : Int} {x6 : Int} {x7 : Option Nat} {x8 : Int} {x9 : Int} {x11 : Int} {y0 : Int} {h : jH} {o : ((Int × Int × Int × Int × jH) ⊕ jH)} {r : mm_R} (e : jd_127_b162 this x3 x4 x5 x6 x7 x8 x9 x11 y0 h = some o) (K : jsm (fun s => (∀ lv : jL, lv 0 = some (jR (some this)) → lv 3 = some (jR x3) → lv 4 = some (jI x4) → lv 5 = some (jI x5) → lv 6 = some (jI x6) → lv 7 = some (jR x7) → lv 8 = some (jI s.1) → lv 9 = some (jI s.2.1) → lv 10 = some (jI s.2.2.1) → lv 11 = some (jI s.2.2.2.1) → ey (mm_xt L xs) 2 127 53 lv [] s.2.2.2.2 r)) (fun x => (∀ lv : jL, ey (mm_xt L xs) 2 127 218 lv [] x r)) o) : ∀ lv : jL, lv 0 = some (jR (some this)) → lv 3 = some (jR x3) → lv 4 = some (jI x4) → lv 5 = some (jI x5) → lv 6 = some (jI x6) → lv 7 = some (jR x7) → lv 8 = some (jI x8) → lv 9 = some (jI x9) → lv 11 = some (jI x11) → ey (mm_xt L xs) 2 127 162 lv [jI y0] h r := by
  intro lv f0 f3 f4 f5 f6 f7 f8 f9 f11
  unfold jd_127_b162 at e
  refine ey_istore (cd_127 rfl) mt_127 rfl ?_
  refine ey_aload_n (cd_127 rfl) f0 ?_
  obtain ⟨r37, e38, e⟩ := jbind e
  refine ey_getf_r (cd_127 rfl) mt_127 rfl rfl rfl e38 ?_
  refine ey_iload (cd_127 rfl) f11 ?_
  refine ey_ldc (z := 1000000) (cd_127 rfl) mt_127 rfl (by decide) ?_
  obtain ⟨a39, e40, e⟩ := jbind e
  refine ey_rs (s0 := [jI 1000000, jI x11, jR r37]) (s1 := [jI 1000000, jI x11, jR (some a39)]) (by rw [e40]) ?_
  obtain ⟨h41, e42, e⟩ := jbind e
  refine ey_iast (cd_127 rfl) e42 ?_
  refine ey_aload_n (cd_127 rfl) f0 ?_
  refine ey_iload (cd_127 rfl) f11 ?_
  refine ey_iconst (cd_127 rfl) ?_
  refine ey_iload (cd_127 rfl) f8 ?_
  refine ey_bipush (cd_127 rfl) (by decide) ?_
  obtain ⟨u43, e44, e⟩ := jbind e
  obtain ⟨h45, e46, e⟩ := jbind e
  refine ey_cv (s0 := [jI 8, jI x8, jI 0, jI x11, jR (some this)]) (s1 := []) (st' := []) (cd_127 rfl) mt_127 mt_128 rfl rfl rfl (jck_s e44) rfl (jsml_s rfl) rfl (ok_128 e46) ?_
  refine ey_aload_n (cd_127 rfl) f0 ?_
  refine ey_iload (cd_127 rfl) f11 ?_
  refine ey_iconst (cd_127 rfl) ?_
  refine ey_iload (cd_127 rfl) (jup_pi (lv := lv) (j := 9) (v := jI y0) (z := x9) f9) ?_
  refine ey_iconst (cd_127 rfl) ?_
  obtain ⟨u47, e48, e⟩ := jbind e
  obtain ⟨h49, e50, e⟩ := jbind e
  refine ey_cv (s0 := [jI 0, jI x9, jI 1, jI x11, jR (some this)]) (s1 := []) (st' := []) (cd_127 rfl) mt_127 mt_128 rfl rfl rfl (jck_s e48) rfl (jsml_s rfl) rfl (ok_128 e50) ?_
  refine ey_aload_n (cd_127 rfl) f0 ?_
  refine ey_iload (cd_127 rfl) f11 ?_
  refine ey_iconst (cd_127 rfl) ?_
  refine ey_iload (cd_127 rfl) rfl ?_
  refine ey_iconst (cd_127 rfl) ?_
  obtain ⟨u51, e52, e⟩ := jbind e
  obtain ⟨h53, e54, e⟩ := jbind e
  refine ey_cv (s0 := [jI 0, jI y0, jI 2, jI x11, jR (some this)]) (s1 := []) (st' := []) (cd_127 rfl) mt_127 mt_128 rfl rfl rfl (jck_s e52) rfl (jsml_s rfl) rfl (ok_128 e54) ?_
  refine ey_aload_n (cd_127 rfl) f0 ?_
  refine ey_iload (cd_127 rfl) f11 ?_
  refine ey_iload (cd_127 rfl) f5 ?_
  obtain ⟨u55, e56, e⟩ := jbind e
  obtain ⟨h57, e58, e⟩ := jbind e
  refine ey_cv (s0 := [jI x5, jI x11, jR (some this)]) (s1 := []) (st' := []) (cd_127 rfl) mt_127 mt_130 rfl rfl rfl (jck_s e56) rfl (jsml_s rfl) rfl (ok_130 e58) ?_
  refine ey_iinc (cd_127 rfl) mt_127 rfl f11 ?_
  refine ey_goto (cd_127 rfl) rfl ?_
  cases e
  exact K (jup (jup lv 10 (jI y0)) 11 (jI (x11 + (-1)))) f0 f3 f4 f5 f6 f7 f8 (jup_o rfl (jup_pi (lv := lv) (j := 9) (v := jI y0) (z := x9) f9)) (jup_pi (lv := (jup lv 10 (jI y0))) (j := 10) (v := jI (x11 + (-1))) (z := y0) rfl) rfl
set_option maxRecDepth 100000 in
theorem jk_127_b129 {L : Nat} {xs : Nat → Int32} {this : Nat} {x3 : Option Nat} {x4 : Int} {x5 : Int} {x6 : Int} {x7 : Option Nat} {x8 : Int} {x10 : Int} {x11 : Int} {x12 : Int} {y0 : Int} {h : jH} {o : ((Int × Int × Int × Int × jH) ⊕ jH)} {r : mm_R} (e : jd_127_b129 this x3 x4 x5 x6 x7 x8 x10 x11 x12 y0 h = some o) (K : jsm (fun s => (∀ lv : jL, lv 0 = some (jR (some this)) → lv 3 = some (jR x3) → lv 4 = some (jI x4) → lv 5 = some (jI x5) → lv 6 = some (jI x6) → lv 7 = some (jR x7) → lv 8 = some (jI s.1) → lv 9 = some (jI s.2.1) → lv 10 = some (jI s.2.2.1) → lv 11 = some (jI s.2.2.2.1) → ey (mm_xt L xs) 2 127 53 lv [] s.2.2.2.2 r)) (fun x => (∀ lv : jL, ey (mm_xt L xs) 2 127 218 lv [] x r)) o) : ∀ lv : jL, lv 0 = some (jR (some this)) → lv 3 = some (jR x3) → lv 4 = some (jI x4) → lv 5 = some (jI x5) → lv 6 = some (jI x6) → lv 7 = some (jR x7) → lv 8 = some (jI x8) → lv 10 = some (jI x10) → lv 11 = some (jI x11) → lv 12 = some (jI x12) → ey (mm_xt L xs) 2 127 129 lv [jI y0] h r := by
  intro lv f0 f3 f4 f5 f6 f7 f8 f10 f11 f12
  unfold jd_127_b129 at e
  refine ey_istore (cd_127 rfl) mt_127 rfl ?_
  refine ey_iload (cd_127 rfl) f11 ?_
  refine ey_iload (cd_127 rfl) f4 ?_
  by_cases q36 : (jw x11) < (jw x4)
  · rw [if_pos q36] at e
    refine ey_clt (cd_127 rfl) rfl rfl rfl q36 ?_
    refine ey_iconst (cd_127 rfl) ?_
    exact jk_127_b162 e K (jup lv 9 (jI y0)) f0 f3 f4 f5 f6 f7 (jup_pi (lv := lv) (j := 8) (v := jI y0) (z := x8) f8) rfl f11
  · rw [if_neg q36] at e
    refine ey_nlt (cd_127 rfl) rfl rfl rfl q36 ?_
    refine ey_aload (cd_127 rfl) f7 ?_
    refine ey_iload (cd_127 rfl) f6 ?_
    refine ey_iload (cd_127 rfl) f11 ?_
    refine ey_iadd (cd_127 rfl) ?_
    refine ey_iload (cd_127 rfl) f4 ?_
    refine ey_isub (cd_127 rfl) ?_
    obtain ⟨a59, e60, e⟩ := jbind e
    refine ey_rs (s0 := [jI ((x6 + x11) - x4), jR x7]) (s1 := [jI ((x6 + x11) - x4), jR (some a59)]) (by rw [e60]) ?_
    obtain ⟨v61, e62, e⟩ := jbind e
    refine ey_iald (cd_127 rfl) e62 ?_
    refine ey_iload (cd_127 rfl) f12 ?_
    have K63 : ∀ lv : jL, lv 0 = some (jR (some this)) → lv 3 = some (jR x3) → lv 4 = some (jI x4) → lv 5 = some (jI x5) → lv 6 = some (jI x6) → lv 7 = some (jR x7) → lv 8 = some (jI x8) → lv 9 = some (jI y0) → lv 11 = some (jI x11) → ey (mm_xt L xs) 2 127 162 lv [jI (if (jw v61) = (jw x12) then (x10 + 1) else 0)] h r := by
      intro lv g0 g3 g4 g5 g6 g7 g8 g9 g11
      exact jk_127_b162 e K lv g0 g3 g4 g5 g6 g7 g8 g9 g11
    by_cases q64 : (jw v61) = (jw x12)
    · refine ey_nne (cd_127 rfl) rfl rfl rfl (fun w => w q64) ?_
      refine ey_iload (cd_127 rfl) f10 ?_
      refine ey_iconst (cd_127 rfl) ?_
      refine ey_iadd (cd_127 rfl) ?_
      refine ey_goto (cd_127 rfl) rfl ?_
      exact ey_rs (s0 := [jI (x10 + 1)]) (s1 := [jI (if (jw v61) = (jw x12) then (x10 + 1) else 0)]) (by rw [show ((if (jw v61) = (jw x12) then (x10 + 1) else 0) : Int) = (x10 + 1) from (if_pos q64)]) (K63 (jup lv 9 (jI y0)) f0 f3 f4 f5 f6 f7 (jup_pi (lv := lv) (j := 8) (v := jI y0) (z := x8) f8) rfl f11)
    · refine ey_cne (cd_127 rfl) rfl rfl rfl q64 ?_
      refine ey_iconst (cd_127 rfl) ?_
      exact ey_rs (s0 := [jI 0]) (s1 := [jI (if (jw v61) = (jw x12) then (x10 + 1) else 0)]) (by rw [show ((if (jw v61) = (jw x12) then (x10 + 1) else 0) : Int) = 0 from (if_neg q64)]) (K63 (jup lv 9 (jI y0)) f0 f3 f4 f5 f6 f7 (jup_pi (lv := lv) (j := 8) (v := jI y0) (z := x8) f8) rfl f11)
set_option maxRecDepth 100000 in
theorem jk_127_b100 {L : Nat} {xs : Nat → Int32} {this : Nat} {x3 : Option Nat} {x4 : Int} {x5 : Int} {x6 : Int} {x7 : Option Nat} {x9 : Int} {x10 : Int} {x11 : Int} {x12 : Int} {y0 : Int} {h : jH} {o : ((Int × Int × Int × Int × jH) ⊕ jH)} {r : mm_R} (e : jd_127_b100 this x3 x4 x5 x6 x7 x9 x10 x11 x12 y0 h = some o) (K : jsm (fun s => (∀ lv : jL, lv 0 = some (jR (some this)) → lv 3 = some (jR x3) → lv 4 = some (jI x4) → lv 5 = some (jI x5) → lv 6 = some (jI x6) → lv 7 = some (jR x7) → lv 8 = some (jI s.1) → lv 9 = some (jI s.2.1) → lv 10 = some (jI s.2.2.1) → lv 11 = some (jI s.2.2.2.1) → ey (mm_xt L xs) 2 127 53 lv [] s.2.2.2.2 r)) (fun x => (∀ lv : jL, ey (mm_xt L xs) 2 127 218 lv [] x r)) o) : ∀ lv : jL, lv 0 = some (jR (some this)) → lv 3 = some (jR x3) → lv 4 = some (jI x4) → lv 5 = some (jI x5) → lv 6 = some (jI x6) → lv 7 = some (jR x7) → lv 9 = some (jI x9) → lv 10 = some (jI x10) → lv 11 = some (jI x11) → lv 12 = some (jI x12) → ey (mm_xt L xs) 2 127 100 lv [jI y0] h r := by
  intro lv f0 f3 f4 f5 f6 f7 f9 f10 f11 f12
  unfold jd_127_b100 at e
  refine ey_istore (cd_127 rfl) mt_127 rfl ?_
  refine ey_aload_n (cd_127 rfl) f3 ?_
  by_cases q35 : x3 = none
  · rw [if_pos q35] at e
    refine ey_rs (s0 := [jR x3]) (s1 := [jR none]) (by rw [q35]) ?_
    refine ey_ifnull_n (cd_127 rfl) rfl ?_
    refine ey_iconst (cd_127 rfl) ?_
    exact jk_127_b129 e K (jup lv 8 (jI y0)) f0 f3 f4 f5 f6 (jup_pr (lv := lv) (j := 7) (v := jI y0) (z := x7) f7) rfl f10 f11 f12
  · rw [if_neg q35] at e
    obtain ⟨w75, w75e⟩ := Option.ne_none_iff_exists'.mp q35
    refine ey_rs (s0 := [jR x3]) (s1 := [jR (some w75)]) (by rw [w75e]) ?_
    refine ey_ifnull_s (cd_127 rfl) rfl ?_
    refine ey_aload_n (cd_127 rfl) f3 ?_
    obtain ⟨a65, e66, e⟩ := jbind e
    refine ey_rs (s0 := [jR x3]) (s1 := [jR (some a65)]) (by rw [e66]) ?_
    obtain ⟨r67, e68, e⟩ := jbind e
    refine ey_getf_r (cd_127 rfl) mt_127 rfl rfl rfl e68 ?_
    refine ey_iload (cd_127 rfl) f6 ?_
    refine ey_iload (cd_127 rfl) f11 ?_
    refine ey_iadd (cd_127 rfl) ?_
    obtain ⟨a69, e70, e⟩ := jbind e
    refine ey_rs (s0 := [jI (x6 + x11), jR r67]) (s1 := [jI (x6 + x11), jR (some a69)]) (by rw [e70]) ?_
    obtain ⟨v71, e72, e⟩ := jbind e
    refine ey_iald (cd_127 rfl) e72 ?_
    refine ey_iload (cd_127 rfl) f12 ?_
    have K73 : ∀ lv : jL, lv 0 = some (jR (some this)) → lv 3 = some (jR x3) → lv 4 = some (jI x4) → lv 5 = some (jI x5) → lv 6 = some (jI x6) → lv 7 = some (jR x7) → lv 8 = some (jI y0) → lv 10 = some (jI x10) → lv 11 = some (jI x11) → lv 12 = some (jI x12) → ey (mm_xt L xs) 2 127 129 lv [jI (if (jw v71) = (jw x12) then (x9 + 1) else 0)] h r := by
      intro lv g0 g3 g4 g5 g6 g7 g8 g10 g11 g12
      exact jk_127_b129 e K lv g0 g3 g4 g5 g6 g7 g8 g10 g11 g12
    by_cases q74 : (jw v71) = (jw x12)
    · refine ey_nne (cd_127 rfl) rfl rfl rfl (fun w => w q74) ?_
      refine ey_iload (cd_127 rfl) f9 ?_
      refine ey_iconst (cd_127 rfl) ?_
      refine ey_iadd (cd_127 rfl) ?_
      refine ey_goto (cd_127 rfl) rfl ?_
      exact ey_rs (s0 := [jI (x9 + 1)]) (s1 := [jI (if (jw v71) = (jw x12) then (x9 + 1) else 0)]) (by rw [show ((if (jw v71) = (jw x12) then (x9 + 1) else 0) : Int) = (x9 + 1) from (if_pos q74)]) (K73 (jup lv 8 (jI y0)) f0 f3 f4 f5 f6 (jup_pr (lv := lv) (j := 7) (v := jI y0) (z := x7) f7) rfl f10 f11 f12)
    · refine ey_cne (cd_127 rfl) rfl rfl rfl q74 ?_
      refine ey_iconst (cd_127 rfl) ?_
      exact ey_rs (s0 := [jI 0]) (s1 := [jI (if (jw v71) = (jw x12) then (x9 + 1) else 0)]) (by rw [show ((if (jw v71) = (jw x12) then (x9 + 1) else 0) : Int) = 0 from (if_neg q74)]) (K73 (jup lv 8 (jI y0)) f0 f3 f4 f5 f6 (jup_pr (lv := lv) (j := 7) (v := jI y0) (z := x7) f7) rfl f10 f11 f12)
set_option maxRecDepth 100000 in
theorem jk_127_s53 {L : Nat} {xs : Nat → Int32} {this : Nat} {x3 : Option Nat} {x4 : Int} {x5 : Int} {x6 : Int} {x7 : Option Nat} {x8 : Int} {x9 : Int} {x10 : Int} {x11 : Int} {h : jH} {o : ((Int × Int × Int × Int × jH) ⊕ jH)} {r : mm_R} (e : jd_127_s53 this x3 x4 x5 x6 x7 x8 x9 x10 x11 h = some o) (K : jsm (fun s => (∀ lv : jL, lv 0 = some (jR (some this)) → lv 3 = some (jR x3) → lv 4 = some (jI x4) → lv 5 = some (jI x5) → lv 6 = some (jI x6) → lv 7 = some (jR x7) → lv 8 = some (jI s.1) → lv 9 = some (jI s.2.1) → lv 10 = some (jI s.2.2.1) → lv 11 = some (jI s.2.2.2.1) → ey (mm_xt L xs) 2 127 53 lv [] s.2.2.2.2 r)) (fun x => (∀ lv : jL, ey (mm_xt L xs) 2 127 218 lv [] x r)) o) : ∀ lv : jL, lv 0 = some (jR (some this)) → lv 3 = some (jR x3) → lv 4 = some (jI x4) → lv 5 = some (jI x5) → lv 6 = some (jI x6) → lv 7 = some (jR x7) → lv 8 = some (jI x8) → lv 9 = some (jI x9) → lv 10 = some (jI x10) → lv 11 = some (jI x11) → ey (mm_xt L xs) 2 127 53 lv [] h r := by
  intro lv f0 f3 f4 f5 f6 f7 f8 f9 f10 f11
  unfold jd_127_s53 at e
  refine ey_iload (cd_127 rfl) f11 ?_
  by_cases q29 : (jw x11) < 0
  · rw [if_pos q29] at e
    refine ey_zlt (cd_127 rfl) rfl rfl q29 ?_
    cases e
    exact K lv 
  · rw [if_neg q29] at e
    refine ey_ylt (cd_127 rfl) rfl rfl q29 ?_
    refine ey_aload (cd_127 rfl) f7 ?_
    refine ey_iload (cd_127 rfl) f6 ?_
    refine ey_iload (cd_127 rfl) f11 ?_
    refine ey_iadd (cd_127 rfl) ?_
    obtain ⟨a30, e31, e⟩ := jbind e
    refine ey_rs (s0 := [jI (x6 + x11), jR x7]) (s1 := [jI (x6 + x11), jR (some a30)]) (by rw [e31]) ?_
    obtain ⟨v32, e33, e⟩ := jbind e
    refine ey_iald (cd_127 rfl) e33 ?_
    refine ey_istore (cd_127 rfl) mt_127 rfl ?_
    refine ey_iload (cd_127 rfl) (jup_pi (lv := lv) (j := 11) (v := jI v32) (z := x11) f11) ?_
    refine ey_iconst (cd_127 rfl) ?_
    refine ey_iadd (cd_127 rfl) ?_
    refine ey_iload (cd_127 rfl) f5 ?_
    by_cases q34 : (jw x5) ≤ (jw (x11 + 1))
    · rw [if_pos q34] at e
      refine ey_cge (cd_127 rfl) rfl rfl rfl q34 ?_
      refine ey_iconst (cd_127 rfl) ?_
      exact jk_127_b100 e K (jup lv 12 (jI v32)) f0 f3 f4 f5 f6 f7 f9 f10 (jup_pi (lv := lv) (j := 11) (v := jI v32) (z := x11) f11) rfl
    · rw [if_neg q34] at e
      refine ey_nge (cd_127 rfl) rfl rfl rfl q34 ?_
      refine ey_aload (cd_127 rfl) f7 ?_
      refine ey_iload (cd_127 rfl) f6 ?_
      refine ey_iload (cd_127 rfl) (jup_pi (lv := lv) (j := 11) (v := jI v32) (z := x11) f11) ?_
      refine ey_iadd (cd_127 rfl) ?_
      refine ey_iconst (cd_127 rfl) ?_
      refine ey_iadd (cd_127 rfl) ?_
      obtain ⟨a76, e77, e⟩ := jbind e
      refine ey_rs (s0 := [jI ((x6 + x11) + 1), jR x7]) (s1 := [jI ((x6 + x11) + 1), jR (some a76)]) (by rw [e77]) ?_
      obtain ⟨v78, e79, e⟩ := jbind e
      refine ey_iald (cd_127 rfl) e79 ?_
      refine ey_iload (cd_127 rfl) rfl ?_
      have K80 : ∀ lv : jL, lv 0 = some (jR (some this)) → lv 3 = some (jR x3) → lv 4 = some (jI x4) → lv 5 = some (jI x5) → lv 6 = some (jI x6) → lv 7 = some (jR x7) → lv 9 = some (jI x9) → lv 10 = some (jI x10) → lv 11 = some (jI x11) → lv 12 = some (jI v32) → ey (mm_xt L xs) 2 127 100 lv [jI (if (jw v78) = (jw v32) then (x8 + 1) else 1)] h r := by
        intro lv g0 g3 g4 g5 g6 g7 g9 g10 g11 g12
        exact jk_127_b100 e K lv g0 g3 g4 g5 g6 g7 g9 g10 g11 g12
      by_cases q81 : (jw v78) = (jw v32)
      · refine ey_nne (cd_127 rfl) rfl rfl rfl (fun w => w q81) ?_
        refine ey_iload (cd_127 rfl) f8 ?_
        refine ey_iconst (cd_127 rfl) ?_
        refine ey_iadd (cd_127 rfl) ?_
        refine ey_goto (cd_127 rfl) rfl ?_
        exact ey_rs (s0 := [jI (x8 + 1)]) (s1 := [jI (if (jw v78) = (jw v32) then (x8 + 1) else 1)]) (by rw [show ((if (jw v78) = (jw v32) then (x8 + 1) else 1) : Int) = (x8 + 1) from (if_pos q81)]) (K80 (jup lv 12 (jI v32)) f0 f3 f4 f5 f6 f7 f9 f10 (jup_pi (lv := lv) (j := 11) (v := jI v32) (z := x11) f11) rfl)
      · refine ey_cne (cd_127 rfl) rfl rfl rfl q81 ?_
        refine ey_iconst (cd_127 rfl) ?_
        exact ey_rs (s0 := [jI 1]) (s1 := [jI (if (jw v78) = (jw v32) then (x8 + 1) else 1)]) (by rw [show ((if (jw v78) = (jw v32) then (x8 + 1) else 1) : Int) = 1 from (if_neg q81)]) (K80 (jup lv 12 (jI v32)) f0 f3 f4 f5 f6 f7 f9 f10 (jup_pi (lv := lv) (j := 11) (v := jI v32) (z := x11) f11) rfl)
theorem jk_127_l53 {L : Nat} {xs : Nat → Int32} {this : Nat} {x3 : Option Nat} {x4 : Int} {x5 : Int} {x6 : Int} {x7 : Option Nat} {x8 : Int} {x9 : Int} {x10 : Int} {x11 : Int} {h : jH} {x : jH} {r : mm_R} (e : jd_127_l53 this x3 x4 x5 x6 x7 x8 x9 x10 x11 h = some x) (K : (∀ lv : jL, ey (mm_xt L xs) 2 127 218 lv [] x r)) : ∀ lv : jL, lv 0 = some (jR (some this)) → lv 3 = some (jR x3) → lv 4 = some (jI x4) → lv 5 = some (jI x5) → lv 6 = some (jI x6) → lv 7 = some (jR x7) → lv 8 = some (jI x8) → lv 9 = some (jI x9) → lv 10 = some (jI x10) → lv 11 = some (jI x11) → ey (mm_xt L xs) 2 127 53 lv [] h r := by
  unfold jd_127_l53 at e
  exact jlp_ok2 (P := fun s => ∀ lv : jL, lv 0 = some (jR (some this)) → lv 3 = some (jR x3) → lv 4 = some (jI x4) → lv 5 = some (jI x5) → lv 6 = some (jI x6) → lv 7 = some (jR x7) → lv 8 = some (jI s.1) → lv 9 = some (jI s.2.1) → lv 10 = some (jI s.2.2.1) → lv 11 = some (jI s.2.2.2.1) → ey (mm_xt L xs) 2 127 53 lv [] s.2.2.2.2 r) (Q := fun x => (∀ lv : jL, ey (mm_xt L xs) 2 127 218 lv [] x r)) (fun s q hq hk => jk_127_s53 hq hk) jfu _ x e K
set_option maxRecDepth 100000 in
theorem ok_127 {L : Nat} {xs : Nat → Int32} {this : Nat} {p0 : Option Nat} {p1 : Int} {p2 : Option Nat} {h : jH} {o : jH} (e : jd_127 this p0 p1 p2 h = some o) : mm_Runs (mm_xt L xs) 3 127 ([jR (some this), jR p0, jI p1, jR p2].map jcv) (jaH h) (.inl (none, jaH o)) := by
  refine ey_run0 _ mt_127 (jsl_s rfl) ?_
  unfold jd_127 at e
  refine ey_aload_n (cd_127 rfl) rfl ?_
  refine ey_iload_n (cd_127 rfl) rfl ?_
  obtain ⟨a1, e2, e⟩ := jbind e
  refine ey_rs (s0 := [jI p1, jR p0]) (s1 := [jI p1, jR (some a1)]) (by rw [e2]) ?_
  obtain ⟨u3, e4, e⟩ := jbind e
  obtain ⟨v5, e6, e⟩ := jbind e
  refine ey_cv (s0 := [jI p1, jR (some a1)]) (s1 := []) (st' := [jI v5]) (cd_127 rfl) mt_127 mt_96 rfl rfl rfl (jck_s e4) rfl (jsml_s rfl) rfl (mm_Runs.up (d := 1) (by decide) (ok_96 e6)) ?_
  refine ey_istore (cd_127 rfl) mt_127 rfl ?_
  refine ey_iload (cd_127 rfl) rfl ?_
  refine ey_aload_n (cd_127 rfl) rfl ?_
  refine ey_iload_n (cd_127 rfl) rfl ?_
  obtain ⟨a7, e8, e⟩ := jbind e
  refine ey_rs (s0 := [jI p1, jR p0, jI v5]) (s1 := [jI p1, jR (some a7), jI v5]) (by rw [e8]) ?_
  obtain ⟨u9, e10, e⟩ := jbind e
  obtain ⟨v11, e12, e⟩ := jbind e
  refine ey_cv (s0 := [jI p1, jR (some a7), jI v5]) (s1 := [jI v5]) (st' := [jI v11, jI v5]) (cd_127 rfl) mt_127 mt_97 rfl rfl rfl (jck_s e10) rfl (jsml_s rfl) rfl (mm_Runs.up (d := 1) (by decide) (ok_97 e12)) ?_
  refine ey_imul (cd_127 rfl) ?_
  refine ey_istore (cd_127 rfl) mt_127 rfl ?_
  refine ey_aload_n (cd_127 rfl) rfl ?_
  refine ey_iload_n (cd_127 rfl) rfl ?_
  obtain ⟨a13, e14, e⟩ := jbind e
  refine ey_rs (s0 := [jI p1, jR p0]) (s1 := [jI p1, jR (some a13)]) (by rw [e14]) ?_
  obtain ⟨u15, e16, e⟩ := jbind e
  obtain ⟨v17, e18, e⟩ := jbind e
  refine ey_cv (s0 := [jI p1, jR (some a13)]) (s1 := []) (st' := [jI v17]) (cd_127 rfl) mt_127 mt_98 rfl rfl rfl (jck_s e16) rfl (jsml_s rfl) rfl (mm_Runs.up (d := 1) (by decide) (ok_98 e18)) ?_
  refine ey_istore (cd_127 rfl) mt_127 rfl ?_
  refine ey_aload_n (cd_127 rfl) rfl ?_
  obtain ⟨a19, e20, e⟩ := jbind e
  refine ey_rs (s0 := [jR p0]) (s1 := [jR (some a19)]) (by rw [e20]) ?_
  obtain ⟨r21, e22, e⟩ := jbind e
  refine ey_getf_r (cd_127 rfl) mt_127 rfl rfl rfl e22 ?_
  refine ey_astore (cd_127 rfl) mt_127 rfl ?_
  refine ey_iconst (cd_127 rfl) ?_
  refine ey_istore (cd_127 rfl) mt_127 rfl ?_
  refine ey_iconst (cd_127 rfl) ?_
  refine ey_istore (cd_127 rfl) mt_127 rfl ?_
  refine ey_iconst (cd_127 rfl) ?_
  refine ey_istore (cd_127 rfl) mt_127 rfl ?_
  refine ey_aload_n (cd_127 rfl) rfl ?_
  obtain ⟨r23, e24, e⟩ := jbind e
  refine ey_getf_r (cd_127 rfl) mt_127 rfl rfl rfl e24 ?_
  refine ey_iload (cd_127 rfl) (jup_o rfl (jup_o rfl (jup_o rfl (jup_o rfl (jup_pi (lv := (jup (jup (jlf (jla 0 [jR (some this), jR p0, jI p1, jR p2])) 4 (jI v5)) 5 (jI (v5 * v11)))) (j := 5) (v := jI v17) (z := (v5 * v11)) rfl))))) ?_
  refine ey_iconst (cd_127 rfl) ?_
  obtain ⟨a25, e26, e⟩ := jbind e
  refine ey_rs (s0 := [jI 0, jI (v5 * v11), jR r23]) (s1 := [jI 0, jI (v5 * v11), jR (some a25)]) (by rw [e26]) ?_
  obtain ⟨h27, e28, e⟩ := jbind e
  refine ey_iast (cd_127 rfl) e28 ?_
  refine ey_iload (cd_127 rfl) (jup_o rfl (jup_o rfl (jup_o rfl (jup_o rfl (jup_pi (lv := (jup (jup (jlf (jla 0 [jR (some this), jR p0, jI p1, jR p2])) 4 (jI v5)) 5 (jI (v5 * v11)))) (j := 5) (v := jI v17) (z := (v5 * v11)) rfl))))) ?_
  refine ey_iconst (cd_127 rfl) ?_
  refine ey_isub (cd_127 rfl) ?_
  refine ey_istore (cd_127 rfl) mt_127 rfl ?_
  obtain ⟨x82, e83, e⟩ := jbind e
  refine jk_127_l53 e83 ?_ (jup (jup (jup (jup (jup (jup (jup (jup (jlf (jla 0 [jR (some this), jR p0, jI p1, jR p2])) 4 (jI v5)) 5 (jI (v5 * v11))) 6 (jI v17)) 7 (jR r21)) 8 (jI 0)) 9 (jI 0)) 10 (jI 0)) 11 (jI ((v5 * v11) - 1))) rfl (jup_o rfl (jup_o rfl (jup_o rfl (jup_o rfl (jup_o rfl (jup_o rfl (jup_o rfl (jup_pr (lv := (jlf (jla 0 [jR (some this), jR p0, jI p1, jR p2]))) (j := 3) (v := jI v5) (z := p2) rfl)))))))) (jup_o rfl (jup_o rfl (jup_o rfl (jup_o rfl (jup_o rfl (jup_o rfl (jup_pi (lv := (jup (jlf (jla 0 [jR (some this), jR p0, jI p1, jR p2])) 4 (jI v5))) (j := 4) (v := jI (v5 * v11)) (z := v5) rfl))))))) (jup_o rfl (jup_o rfl (jup_o rfl (jup_o rfl (jup_o rfl (jup_pi (lv := (jup (jup (jlf (jla 0 [jR (some this), jR p0, jI p1, jR p2])) 4 (jI v5)) 5 (jI (v5 * v11)))) (j := 5) (v := jI v17) (z := (v5 * v11)) rfl)))))) (jup_o rfl (jup_o rfl (jup_o rfl (jup_o rfl (jup_pi (lv := (jup (jup (jup (jlf (jla 0 [jR (some this), jR p0, jI p1, jR p2])) 4 (jI v5)) 5 (jI (v5 * v11))) 6 (jI v17))) (j := 6) (v := jR r21) (z := v17) rfl))))) (jup_o rfl (jup_o rfl (jup_o rfl (jup_pr (lv := (jup (jup (jup (jup (jlf (jla 0 [jR (some this), jR p0, jI p1, jR p2])) 4 (jI v5)) 5 (jI (v5 * v11))) 6 (jI v17)) 7 (jR r21))) (j := 7) (v := jI 0) (z := r21) rfl)))) (jup_o rfl (jup_o rfl (jup_pi (lv := (jup (jup (jup (jup (jup (jlf (jla 0 [jR (some this), jR p0, jI p1, jR p2])) 4 (jI v5)) 5 (jI (v5 * v11))) 6 (jI v17)) 7 (jR r21)) 8 (jI 0))) (j := 8) (v := jI 0) (z := 0) rfl))) (jup_o rfl (jup_pi (lv := (jup (jup (jup (jup (jup (jup (jlf (jla 0 [jR (some this), jR p0, jI p1, jR p2])) 4 (jI v5)) 5 (jI (v5 * v11))) 6 (jI v17)) 7 (jR r21)) 8 (jI 0)) 9 (jI 0))) (j := 9) (v := jI 0) (z := 0) rfl)) (jup_pi (lv := (jup (jup (jup (jup (jup (jup (jup (jlf (jla 0 [jR (some this), jR p0, jI p1, jR p2])) 4 (jI v5)) 5 (jI (v5 * v11))) 6 (jI v17)) 7 (jR r21)) 8 (jI 0)) 9 (jI 0)) 10 (jI 0))) (j := 10) (v := jI ((v5 * v11) - 1)) (z := 0) rfl) rfl
  intro lv 
  cases e
  exact ey_retv (cd_127 rfl) mt_127 rfl
theorem cd_126 {pc : Nat} {i : Instr × Nat} (h : mm_lk mm_c126 pc = some i) : mm_cd 126 pc = some i := h
theorem mt_126 : mm_MT 126 = (9, 13, none, 4, 0, []) := rfl
set_option maxRecDepth 100000 in
theorem jk_126_s106 {L : Nat} {xs : Nat → Int32} {this : Nat} {x1 : Option Nat} {x2 : Option Nat} {x5 : Int} {x6 : Int} {x7 : Int} {x8 : Int} {x10 : Int} {x11 : Int} {x12 : Int} {h : jH} {o : ((Int × jH) ⊕ jH)} {r : mm_R} (e : jd_126_s106 this x1 x2 x5 x6 x7 x8 x10 x11 x12 h = some o) (K : jsm (fun s => (∀ lv : jL, lv 0 = some (jR (some this)) → lv 1 = some (jR x1) → lv 2 = some (jR x2) → lv 5 = some (jI x5) → lv 6 = some (jI x6) → lv 7 = some (jI x7) → lv 8 = some (jI x8) → lv 10 = some (jI x10) → lv 11 = some (jI x11) → lv 12 = some (jI s.1) → ey (mm_xt L xs) 3 126 106 lv [] s.2 r)) (fun x => (∀ lv : jL, lv 0 = some (jR (some this)) → lv 1 = some (jR x1) → lv 2 = some (jR x2) → lv 5 = some (jI x5) → lv 6 = some (jI x6) → lv 7 = some (jI x7) → lv 8 = some (jI x8) → lv 10 = some (jI x10) → ey (mm_xt L xs) 3 126 138 lv [] x r)) o) : ∀ lv : jL, lv 0 = some (jR (some this)) → lv 1 = some (jR x1) → lv 2 = some (jR x2) → lv 5 = some (jI x5) → lv 6 = some (jI x6) → lv 7 = some (jI x7) → lv 8 = some (jI x8) → lv 10 = some (jI x10) → lv 11 = some (jI x11) → lv 12 = some (jI x12) → ey (mm_xt L xs) 3 126 106 lv [] h r := by
  intro lv f0 f1 f2 f5 f6 f7 f8 f10 f11 f12
  unfold jd_126_s106 at e
  refine ey_iload (cd_126 rfl) f12 ?_
  refine ey_iload (cd_126 rfl) f11 ?_
  by_cases q49 : (jw x11) ≤ (jw x12)
  · rw [if_pos q49] at e
    refine ey_cge (cd_126 rfl) rfl rfl rfl q49 ?_
    cases e
    exact K lv f0 f1 f2 f5 f6 f7 f8 f10
  · rw [if_neg q49] at e
    refine ey_nge (cd_126 rfl) rfl rfl rfl q49 ?_
    refine ey_aload_n (cd_126 rfl) f1 ?_
    refine ey_aload_n (cd_126 rfl) f2 ?_
    obtain ⟨a50, e51, e⟩ := jbind e
    refine ey_rs (s0 := [jR x2, jR x1]) (s1 := [jR (some a50), jR x1]) (by rw [e51]) ?_
    obtain ⟨r52, e53, e⟩ := jbind e
    refine ey_getf_r (cd_126 rfl) mt_126 rfl rfl rfl e53 ?_
    refine ey_iload (cd_126 rfl) f5 ?_
    refine ey_iload (cd_126 rfl) f7 ?_
    refine ey_iadd (cd_126 rfl) ?_
    refine ey_iload (cd_126 rfl) f12 ?_
    refine ey_iadd (cd_126 rfl) ?_
    obtain ⟨a54, e55, e⟩ := jbind e
    refine ey_rs (s0 := [jI ((x5 + x7) + x12), jR r52, jR x1]) (s1 := [jI ((x5 + x7) + x12), jR (some a54), jR x1]) (by rw [e55]) ?_
    obtain ⟨v56, e57, e⟩ := jbind e
    refine ey_iald (cd_126 rfl) e57 ?_
    refine ey_bipush (cd_126 rfl) (by decide) ?_
    obtain ⟨a58, e59, e⟩ := jbind e
    refine ey_rs (s0 := [jI 8, jI v56, jR x1]) (s1 := [jI 8, jI v56, jR (some a58)]) (by rw [e59]) ?_
    obtain ⟨u60, e61, e⟩ := jbind e
    obtain ⟨h62, e63, e⟩ := jbind e
    refine ey_cv (s0 := [jI 8, jI v56, jR (some a58)]) (s1 := []) (st' := []) (cd_126 rfl) mt_126 mt_8 rfl rfl rfl (jck_s e61) rfl (jsml_s rfl) rfl (mm_Runs.up (d := 1) (by decide) (ok_8 e63)) ?_
    refine ey_iinc (cd_126 rfl) mt_126 rfl f12 ?_
    refine ey_goto (cd_126 rfl) rfl ?_
    cases e
    exact K (jup lv 12 (jI (x12 + 1))) f0 f1 f2 f5 f6 f7 f8 f10 (jup_pi (lv := lv) (j := 11) (v := jI (x12 + 1)) (z := x11) f11) rfl
theorem jk_126_l106 {L : Nat} {xs : Nat → Int32} {this : Nat} {x1 : Option Nat} {x2 : Option Nat} {x5 : Int} {x6 : Int} {x7 : Int} {x8 : Int} {x10 : Int} {x11 : Int} {x12 : Int} {h : jH} {x : jH} {r : mm_R} (e : jd_126_l106 this x1 x2 x5 x6 x7 x8 x10 x11 x12 h = some x) (K : (∀ lv : jL, lv 0 = some (jR (some this)) → lv 1 = some (jR x1) → lv 2 = some (jR x2) → lv 5 = some (jI x5) → lv 6 = some (jI x6) → lv 7 = some (jI x7) → lv 8 = some (jI x8) → lv 10 = some (jI x10) → ey (mm_xt L xs) 3 126 138 lv [] x r)) : ∀ lv : jL, lv 0 = some (jR (some this)) → lv 1 = some (jR x1) → lv 2 = some (jR x2) → lv 5 = some (jI x5) → lv 6 = some (jI x6) → lv 7 = some (jI x7) → lv 8 = some (jI x8) → lv 10 = some (jI x10) → lv 11 = some (jI x11) → lv 12 = some (jI x12) → ey (mm_xt L xs) 3 126 106 lv [] h r := by
  unfold jd_126_l106 at e
  exact jlp_ok2 (P := fun s => ∀ lv : jL, lv 0 = some (jR (some this)) → lv 1 = some (jR x1) → lv 2 = some (jR x2) → lv 5 = some (jI x5) → lv 6 = some (jI x6) → lv 7 = some (jI x7) → lv 8 = some (jI x8) → lv 10 = some (jI x10) → lv 11 = some (jI x11) → lv 12 = some (jI s.1) → ey (mm_xt L xs) 3 126 106 lv [] s.2 r) (Q := fun x => (∀ lv : jL, lv 0 = some (jR (some this)) → lv 1 = some (jR x1) → lv 2 = some (jR x2) → lv 5 = some (jI x5) → lv 6 = some (jI x6) → lv 7 = some (jI x7) → lv 8 = some (jI x8) → lv 10 = some (jI x10) → ey (mm_xt L xs) 3 126 138 lv [] x r)) (fun s q hq hk => jk_126_s106 hq hk) jfu _ x e K
set_option maxRecDepth 100000 in
theorem jk_126_b101 {L : Nat} {xs : Nat → Int32} {this : Nat} {x1 : Option Nat} {x2 : Option Nat} {x5 : Int} {x6 : Int} {x7 : Int} {x8 : Int} {x10 : Int} {y0 : Int} {h : jH} {o : ((Int × Int × jH) ⊕ jH)} {r : mm_R} (e : jd_126_b101 this x1 x2 x5 x6 x7 x8 x10 y0 h = some o) (K : jsm (fun s => (∀ lv : jL, lv 0 = some (jR (some this)) → lv 1 = some (jR x1) → lv 2 = some (jR x2) → lv 5 = some (jI x5) → lv 6 = some (jI x6) → lv 7 = some (jI s.1) → lv 8 = some (jI s.2.1) → ey (mm_xt L xs) 3 126 34 lv [] s.2.2 r)) (fun x => (∀ lv : jL, ey (mm_xt L xs) 3 126 151 lv [] x r)) o) : ∀ lv : jL, lv 0 = some (jR (some this)) → lv 1 = some (jR x1) → lv 2 = some (jR x2) → lv 5 = some (jI x5) → lv 6 = some (jI x6) → lv 7 = some (jI x7) → lv 8 = some (jI x8) → lv 10 = some (jI x10) → ey (mm_xt L xs) 3 126 101 lv [jI y0] h r := by
  intro lv f0 f1 f2 f5 f6 f7 f8 f10
  unfold jd_126_b101 at e
  refine ey_istore (cd_126 rfl) mt_126 rfl ?_
  refine ey_iconst (cd_126 rfl) ?_
  refine ey_istore (cd_126 rfl) mt_126 rfl ?_
  obtain ⟨x64, e65, e⟩ := jbind e
  refine jk_126_l106 e65 ?_ (jup (jup lv 11 (jI y0)) 12 (jI 0)) f0 f1 f2 f5 f6 f7 f8 (jup_o rfl (jup_pi (lv := lv) (j := 10) (v := jI y0) (z := x10) f10)) (jup_pi (lv := (jup lv 11 (jI y0))) (j := 11) (v := jI 0) (z := y0) rfl) rfl
  intro lv g0 g1 g2 g5 g6 g7 g8 g10
  refine ey_iload (cd_126 rfl) g7 ?_
  refine ey_iload (cd_126 rfl) g10 ?_
  refine ey_iadd (cd_126 rfl) ?_
  refine ey_istore (cd_126 rfl) mt_126 rfl ?_
  refine ey_iinc (cd_126 rfl) mt_126 rfl g8 ?_
  refine ey_goto (cd_126 rfl) rfl ?_
  cases e
  exact K (jup (jup lv 7 (jI (x7 + x10))) 8 (jI (x8 + 1))) g0 g1 g2 g5 (jup_o rfl (jup_pi (lv := lv) (j := 6) (v := jI (x7 + x10)) (z := x6) g6)) (jup_pi (lv := (jup lv 7 (jI (x7 + x10)))) (j := 7) (v := jI (x8 + 1)) (z := (x7 + x10)) rfl) rfl
set_option maxRecDepth 100000 in
theorem jk_126_s34 {L : Nat} {xs : Nat → Int32} {this : Nat} {x1 : Option Nat} {x2 : Option Nat} {x5 : Int} {x6 : Int} {x7 : Int} {x8 : Int} {h : jH} {o : ((Int × Int × jH) ⊕ jH)} {r : mm_R} (e : jd_126_s34 this x1 x2 x5 x6 x7 x8 h = some o) (K : jsm (fun s => (∀ lv : jL, lv 0 = some (jR (some this)) → lv 1 = some (jR x1) → lv 2 = some (jR x2) → lv 5 = some (jI x5) → lv 6 = some (jI x6) → lv 7 = some (jI s.1) → lv 8 = some (jI s.2.1) → ey (mm_xt L xs) 3 126 34 lv [] s.2.2 r)) (fun x => (∀ lv : jL, ey (mm_xt L xs) 3 126 151 lv [] x r)) o) : ∀ lv : jL, lv 0 = some (jR (some this)) → lv 1 = some (jR x1) → lv 2 = some (jR x2) → lv 5 = some (jI x5) → lv 6 = some (jI x6) → lv 7 = some (jI x7) → lv 8 = some (jI x8) → ey (mm_xt L xs) 3 126 34 lv [] h r := by
  intro lv f0 f1 f2 f5 f6 f7 f8
  unfold jd_126_s34 at e
  refine ey_iload (cd_126 rfl) f8 ?_
  refine ey_iload (cd_126 rfl) f6 ?_
  by_cases q23 : (jw x6) ≤ (jw x8)
  · rw [if_pos q23] at e
    refine ey_cge (cd_126 rfl) rfl rfl rfl q23 ?_
    cases e
    exact K lv 
  · rw [if_neg q23] at e
    refine ey_nge (cd_126 rfl) rfl rfl rfl q23 ?_
    refine ey_iload (cd_126 rfl) f7 ?_
    refine ey_iload (cd_126 rfl) f6 ?_
    by_cases q24 : (jw x6) ≤ (jw x7)
    · rw [if_pos q24] at e
      refine ey_cge (cd_126 rfl) rfl rfl rfl q24 ?_
      cases e
      exact K lv 
    · rw [if_neg q24] at e
      refine ey_nge (cd_126 rfl) rfl rfl rfl q24 ?_
      refine ey_aload_n (cd_126 rfl) f0 ?_
      obtain ⟨r25, e26, e⟩ := jbind e
      refine ey_getf_r (cd_126 rfl) mt_126 rfl rfl rfl e26 ?_
      refine ey_iload (cd_126 rfl) f7 ?_
      obtain ⟨a27, e28, e⟩ := jbind e
      refine ey_rs (s0 := [jI x7, jR r25]) (s1 := [jI x7, jR (some a27)]) (by rw [e28]) ?_
      obtain ⟨v29, e30, e⟩ := jbind e
      refine ey_iald (cd_126 rfl) e30 ?_
      refine ey_istore (cd_126 rfl) mt_126 rfl ?_
      refine ey_aload_n (cd_126 rfl) f0 ?_
      obtain ⟨r31, e32, e⟩ := jbind e
      refine ey_getf_r (cd_126 rfl) mt_126 rfl rfl rfl e32 ?_
      refine ey_iload (cd_126 rfl) f7 ?_
      obtain ⟨a33, e34, e⟩ := jbind e
      refine ey_rs (s0 := [jI x7, jR r31]) (s1 := [jI x7, jR (some a33)]) (by rw [e34]) ?_
      obtain ⟨v35, e36, e⟩ := jbind e
      refine ey_iald (cd_126 rfl) e36 ?_
      refine ey_istore (cd_126 rfl) mt_126 rfl ?_
      refine ey_aload_n (cd_126 rfl) f1 ?_
      refine ey_iload (cd_126 rfl) (jup_pi (lv := (jup lv 9 (jI v29))) (j := 9) (v := jI v35) (z := v29) rfl) ?_
      obtain ⟨a37, e38, e⟩ := jbind e
      refine ey_rs (s0 := [jI v29, jR x1]) (s1 := [jI v29, jR (some a37)]) (by rw [e38]) ?_
      obtain ⟨u39, e40, e⟩ := jbind e
      obtain ⟨h41, e42, e⟩ := jbind e
      refine ey_cv (s0 := [jI v29, jR (some a37)]) (s1 := []) (st' := []) (cd_126 rfl) mt_126 mt_9 rfl rfl rfl (jck_s e40) rfl (jsml_s rfl) rfl (mm_Runs.up (d := 2) (by decide) (ok_9 e42)) ?_
      refine ey_aload_n (cd_126 rfl) f1 ?_
      refine ey_iload (cd_126 rfl) rfl ?_
      refine ey_iconst (cd_126 rfl) ?_
      refine ey_isub (cd_126 rfl) ?_
      obtain ⟨a43, e44, e⟩ := jbind e
      refine ey_rs (s0 := [jI (v35 - 1), jR x1]) (s1 := [jI (v35 - 1), jR (some a43)]) (by rw [e44]) ?_
      obtain ⟨u45, e46, e⟩ := jbind e
      obtain ⟨h47, e48, e⟩ := jbind e
      refine ey_cv (s0 := [jI (v35 - 1), jR (some a43)]) (s1 := []) (st' := []) (cd_126 rfl) mt_126 mt_9 rfl rfl rfl (jck_s e46) rfl (jsml_s rfl) rfl (mm_Runs.up (d := 2) (by decide) (ok_9 e48)) ?_
      refine ey_iload (cd_126 rfl) (jup_pi (lv := (jup lv 9 (jI v29))) (j := 9) (v := jI v35) (z := v29) rfl) ?_
      have K66 : ∀ lv : jL, lv 0 = some (jR (some this)) → lv 1 = some (jR x1) → lv 2 = some (jR x2) → lv 5 = some (jI x5) → lv 6 = some (jI x6) → lv 7 = some (jI x7) → lv 8 = some (jI x8) → lv 10 = some (jI v35) → ey (mm_xt L xs) 3 126 101 lv [jI (if (jw v29) = 0 then 1 else (if (jw v29) = 3 then v35 else 0))] h47 r := by
        intro lv g0 g1 g2 g5 g6 g7 g8 g10
        exact jk_126_b101 e K lv g0 g1 g2 g5 g6 g7 g8 g10
      by_cases q67 : (jw v29) = 0
      · refine ey_yne (cd_126 rfl) rfl rfl (fun w => w q67) ?_
        refine ey_iconst (cd_126 rfl) ?_
        refine ey_goto (cd_126 rfl) rfl ?_
        exact ey_rs (s0 := [jI 1]) (s1 := [jI (if (jw v29) = 0 then 1 else (if (jw v29) = 3 then v35 else 0))]) (by rw [show ((if (jw v29) = 0 then 1 else (if (jw v29) = 3 then v35 else 0)) : Int) = 1 from (if_pos q67)]) (K66 (jup (jup lv 9 (jI v29)) 10 (jI v35)) f0 f1 f2 f5 f6 f7 (jup_o rfl (jup_pi (lv := lv) (j := 8) (v := jI v29) (z := x8) f8)) rfl)
      · refine ey_zne (cd_126 rfl) rfl rfl q67 ?_
        refine ey_iload (cd_126 rfl) (jup_pi (lv := (jup lv 9 (jI v29))) (j := 9) (v := jI v35) (z := v29) rfl) ?_
        refine ey_iconst (cd_126 rfl) ?_
        by_cases q68 : (jw v29) = 3
        · refine ey_nne (cd_126 rfl) rfl rfl (show jw 3 = 3 from by decide) (fun w => w q68) ?_
          refine ey_iload (cd_126 rfl) rfl ?_
          refine ey_goto (cd_126 rfl) rfl ?_
          exact ey_rs (s0 := [jI v35]) (s1 := [jI (if (jw v29) = 0 then 1 else (if (jw v29) = 3 then v35 else 0))]) (by rw [show ((if (jw v29) = 0 then 1 else (if (jw v29) = 3 then v35 else 0)) : Int) = v35 from ((if_neg q67).trans (if_pos q68))]) (K66 (jup (jup lv 9 (jI v29)) 10 (jI v35)) f0 f1 f2 f5 f6 f7 (jup_o rfl (jup_pi (lv := lv) (j := 8) (v := jI v29) (z := x8) f8)) rfl)
        · refine ey_cne (cd_126 rfl) rfl rfl (show jw 3 = 3 from by decide) q68 ?_
          refine ey_iconst (cd_126 rfl) ?_
          exact ey_rs (s0 := [jI 0]) (s1 := [jI (if (jw v29) = 0 then 1 else (if (jw v29) = 3 then v35 else 0))]) (by rw [show ((if (jw v29) = 0 then 1 else (if (jw v29) = 3 then v35 else 0)) : Int) = 0 from ((if_neg q67).trans (if_neg q68))]) (K66 (jup (jup lv 9 (jI v29)) 10 (jI v35)) f0 f1 f2 f5 f6 f7 (jup_o rfl (jup_pi (lv := lv) (j := 8) (v := jI v29) (z := x8) f8)) rfl)
theorem jk_126_l34 {L : Nat} {xs : Nat → Int32} {this : Nat} {x1 : Option Nat} {x2 : Option Nat} {x5 : Int} {x6 : Int} {x7 : Int} {x8 : Int} {h : jH} {x : jH} {r : mm_R} (e : jd_126_l34 this x1 x2 x5 x6 x7 x8 h = some x) (K : (∀ lv : jL, ey (mm_xt L xs) 3 126 151 lv [] x r)) : ∀ lv : jL, lv 0 = some (jR (some this)) → lv 1 = some (jR x1) → lv 2 = some (jR x2) → lv 5 = some (jI x5) → lv 6 = some (jI x6) → lv 7 = some (jI x7) → lv 8 = some (jI x8) → ey (mm_xt L xs) 3 126 34 lv [] h r := by
  unfold jd_126_l34 at e
  exact jlp_ok2 (P := fun s => ∀ lv : jL, lv 0 = some (jR (some this)) → lv 1 = some (jR x1) → lv 2 = some (jR x2) → lv 5 = some (jI x5) → lv 6 = some (jI x6) → lv 7 = some (jI s.1) → lv 8 = some (jI s.2.1) → ey (mm_xt L xs) 3 126 34 lv [] s.2.2 r) (Q := fun x => (∀ lv : jL, ey (mm_xt L xs) 3 126 151 lv [] x r)) (fun s q hq hk => jk_126_s34 hq hk) jfu _ x e K
set_option maxRecDepth 100000 in
theorem ok_126 {L : Nat} {xs : Nat → Int32} {this : Nat} {p0 : Option Nat} {p1 : Option Nat} {p2 : Int} {p3 : Option Nat} {h : jH} {o : jH} (e : jd_126 this p0 p1 p2 p3 h = some o) : mm_Runs (mm_xt L xs) 4 126 ([jR (some this), jR p0, jR p1, jI p2, jR p3].map jcv) (jaH h) (.inl (none, jaH o)) := by
  refine ey_run0 _ mt_126 (jsl_s rfl) ?_
  unfold jd_126 at e
  refine ey_aload_n (cd_126 rfl) rfl ?_
  refine ey_aload_n (cd_126 rfl) rfl ?_
  refine ey_iload_n (cd_126 rfl) rfl ?_
  refine ey_aload (cd_126 rfl) rfl ?_
  obtain ⟨u1, e2, e⟩ := jbind e
  obtain ⟨h3, e4, e⟩ := jbind e
  refine ey_cv (s0 := [jR p3, jI p2, jR p1, jR (some this)]) (s1 := []) (st' := []) (cd_126 rfl) mt_126 mt_127 rfl rfl rfl (jck_s e2) rfl (jsml_s rfl) rfl (ok_127 e4) ?_
  refine ey_aload_n (cd_126 rfl) rfl ?_
  refine ey_iload_n (cd_126 rfl) rfl ?_
  obtain ⟨a5, e6, e⟩ := jbind e
  refine ey_rs (s0 := [jI p2, jR p1]) (s1 := [jI p2, jR (some a5)]) (by rw [e6]) ?_
  obtain ⟨u7, e8, e⟩ := jbind e
  obtain ⟨v9, e10, e⟩ := jbind e
  refine ey_cv (s0 := [jI p2, jR (some a5)]) (s1 := []) (st' := [jI v9]) (cd_126 rfl) mt_126 mt_98 rfl rfl rfl (jck_s e8) rfl (jsml_s rfl) rfl (mm_Runs.up (d := 1) (by decide) (ok_98 e10)) ?_
  refine ey_istore (cd_126 rfl) mt_126 rfl ?_
  refine ey_aload_n (cd_126 rfl) rfl ?_
  refine ey_iload_n (cd_126 rfl) rfl ?_
  obtain ⟨a11, e12, e⟩ := jbind e
  refine ey_rs (s0 := [jI p2, jR p1]) (s1 := [jI p2, jR (some a11)]) (by rw [e12]) ?_
  obtain ⟨u13, e14, e⟩ := jbind e
  obtain ⟨v15, e16, e⟩ := jbind e
  refine ey_cv (s0 := [jI p2, jR (some a11)]) (s1 := []) (st' := [jI v15]) (cd_126 rfl) mt_126 mt_96 rfl rfl rfl (jck_s e14) rfl (jsml_s rfl) rfl (mm_Runs.up (d := 1) (by decide) (ok_96 e16)) ?_
  refine ey_aload_n (cd_126 rfl) rfl ?_
  refine ey_iload_n (cd_126 rfl) rfl ?_
  obtain ⟨a17, e18, e⟩ := jbind e
  refine ey_rs (s0 := [jI p2, jR p1, jI v15]) (s1 := [jI p2, jR (some a17), jI v15]) (by rw [e18]) ?_
  obtain ⟨u19, e20, e⟩ := jbind e
  obtain ⟨v21, e22, e⟩ := jbind e
  refine ey_cv (s0 := [jI p2, jR (some a17), jI v15]) (s1 := [jI v15]) (st' := [jI v21, jI v15]) (cd_126 rfl) mt_126 mt_97 rfl rfl rfl (jck_s e20) rfl (jsml_s rfl) rfl (mm_Runs.up (d := 1) (by decide) (ok_97 e22)) ?_
  refine ey_imul (cd_126 rfl) ?_
  refine ey_istore (cd_126 rfl) mt_126 rfl ?_
  refine ey_iconst (cd_126 rfl) ?_
  refine ey_istore (cd_126 rfl) mt_126 rfl ?_
  refine ey_iconst (cd_126 rfl) ?_
  refine ey_istore (cd_126 rfl) mt_126 rfl ?_
  obtain ⟨x69, e70, e⟩ := jbind e
  refine jk_126_l34 e70 ?_ (jup (jup (jup (jup (jlf (jla 0 [jR (some this), jR p0, jR p1, jI p2, jR p3])) 5 (jI v9)) 6 (jI (v15 * v21))) 7 (jI 0)) 8 (jI 0)) rfl rfl rfl (jup_o rfl (jup_o rfl (jup_pi (lv := (jup (jlf (jla 0 [jR (some this), jR p0, jR p1, jI p2, jR p3])) 5 (jI v9))) (j := 5) (v := jI (v15 * v21)) (z := v9) rfl))) (jup_o rfl (jup_pi (lv := (jup (jup (jlf (jla 0 [jR (some this), jR p0, jR p1, jI p2, jR p3])) 5 (jI v9)) 6 (jI (v15 * v21)))) (j := 6) (v := jI 0) (z := (v15 * v21)) rfl)) (jup_pi (lv := (jup (jup (jup (jlf (jla 0 [jR (some this), jR p0, jR p1, jI p2, jR p3])) 5 (jI v9)) 6 (jI (v15 * v21))) 7 (jI 0))) (j := 7) (v := jI 0) (z := 0) rfl) rfl
  intro lv 
  cases e
  exact ey_retv (cd_126 rfl) mt_126 rfl
theorem cd_137 {pc : Nat} {i : Instr × Nat} (h : mm_lk mm_c137 pc = some i) : mm_cd 137 pc = some i := h
theorem mt_137 : mm_MT 137 = (10, 6, none, 3, 0, []) := rfl
set_option maxRecDepth 100000 in
theorem jk_137_s3 {L : Nat} {xs : Nat → Int32} {this : Nat} {x1 : Int} {x2 : Int} {x3 : Int} {x4 : Int} {h : jH} {o : ((Int × jH) ⊕ jH)} {r : mm_R} (e : jd_137_s3 this x1 x2 x3 x4 h = some o) (K : jsm (fun s => (∀ lv : jL, lv 0 = some (jR (some this)) → lv 1 = some (jI x1) → lv 2 = some (jI x2) → lv 3 = some (jI x3) → lv 4 = some (jI s.1) → ey (mm_xt L xs) 0 137 3 lv [] s.2 r)) (fun x => (∀ lv : jL, lv 0 = some (jR (some this)) → lv 1 = some (jI x1) → lv 2 = some (jI x2) → lv 3 = some (jI x3) → ey (mm_xt L xs) 0 137 33 lv [] x r)) o) : ∀ lv : jL, lv 0 = some (jR (some this)) → lv 1 = some (jI x1) → lv 2 = some (jI x2) → lv 3 = some (jI x3) → lv 4 = some (jI x4) → ey (mm_xt L xs) 0 137 3 lv [] h r := by
  intro lv f0 f1 f2 f3 f4
  unfold jd_137_s3 at e
  refine ey_iload (cd_137 rfl) f4 ?_
  refine ey_iload_n (cd_137 rfl) f3 ?_
  by_cases q1 : (jw x3) ≤ (jw x4)
  · rw [if_pos q1] at e
    refine ey_cge (cd_137 rfl) rfl rfl rfl q1 ?_
    cases e
    exact K lv f0 f1 f2 f3
  · rw [if_neg q1] at e
    refine ey_nge (cd_137 rfl) rfl rfl rfl q1 ?_
    refine ey_aload_n (cd_137 rfl) f0 ?_
    obtain ⟨r2, e3, e⟩ := jbind e
    refine ey_getf_r (cd_137 rfl) mt_137 rfl rfl rfl e3 ?_
    refine ey_iload (cd_137 rfl) f4 ?_
    refine ey_aload_n (cd_137 rfl) f0 ?_
    obtain ⟨r4, e5, e⟩ := jbind e
    refine ey_getf_r (cd_137 rfl) mt_137 rfl rfl rfl e5 ?_
    refine ey_iload_n (cd_137 rfl) f1 ?_
    refine ey_iload (cd_137 rfl) f4 ?_
    refine ey_iload_n (cd_137 rfl) f2 ?_
    refine ey_imul (cd_137 rfl) ?_
    refine ey_iadd (cd_137 rfl) ?_
    obtain ⟨a6, e7, e⟩ := jbind e
    refine ey_rs (s0 := [jI (x1 + (x4 * x2)), jR r4, jI x4, jR r2]) (s1 := [jI (x1 + (x4 * x2)), jR (some a6), jI x4, jR r2]) (by rw [e7]) ?_
    obtain ⟨v8, e9, e⟩ := jbind e
    refine ey_iald (cd_137 rfl) e9 ?_
    obtain ⟨a10, e11, e⟩ := jbind e
    refine ey_rs (s0 := [jI v8, jI x4, jR r2]) (s1 := [jI v8, jI x4, jR (some a10)]) (by rw [e11]) ?_
    obtain ⟨h12, e13, e⟩ := jbind e
    refine ey_iast (cd_137 rfl) e13 ?_
    refine ey_iinc (cd_137 rfl) mt_137 rfl f4 ?_
    refine ey_goto (cd_137 rfl) rfl ?_
    cases e
    exact K (jup lv 4 (jI (x4 + 1))) f0 f1 f2 (jup_pi (lv := lv) (j := 3) (v := jI (x4 + 1)) (z := x3) f3) rfl
theorem jk_137_l3 {L : Nat} {xs : Nat → Int32} {this : Nat} {x1 : Int} {x2 : Int} {x3 : Int} {x4 : Int} {h : jH} {x : jH} {r : mm_R} (e : jd_137_l3 this x1 x2 x3 x4 h = some x) (K : (∀ lv : jL, lv 0 = some (jR (some this)) → lv 1 = some (jI x1) → lv 2 = some (jI x2) → lv 3 = some (jI x3) → ey (mm_xt L xs) 0 137 33 lv [] x r)) : ∀ lv : jL, lv 0 = some (jR (some this)) → lv 1 = some (jI x1) → lv 2 = some (jI x2) → lv 3 = some (jI x3) → lv 4 = some (jI x4) → ey (mm_xt L xs) 0 137 3 lv [] h r := by
  unfold jd_137_l3 at e
  exact jlp_ok2 (P := fun s => ∀ lv : jL, lv 0 = some (jR (some this)) → lv 1 = some (jI x1) → lv 2 = some (jI x2) → lv 3 = some (jI x3) → lv 4 = some (jI s.1) → ey (mm_xt L xs) 0 137 3 lv [] s.2 r) (Q := fun x => (∀ lv : jL, lv 0 = some (jR (some this)) → lv 1 = some (jI x1) → lv 2 = some (jI x2) → lv 3 = some (jI x3) → ey (mm_xt L xs) 0 137 33 lv [] x r)) (fun s q hq hk => jk_137_s3 hq hk) jfu _ x e K
set_option maxRecDepth 100000 in
theorem jk_137_b71 {L : Nat} {xs : Nat → Int32} {this : Nat} {x1 : Int} {x2 : Int} {x3 : Int} {x4 : Int} {y0 : Int} {h : jH} {o : ((Int × jH) ⊕ jH)} {r : mm_R} (e : jd_137_b71 this x1 x2 x3 x4 y0 h = some o) (K : jsm (fun s => (∀ lv : jL, lv 0 = some (jR (some this)) → lv 1 = some (jI x1) → lv 2 = some (jI x2) → lv 3 = some (jI x3) → lv 4 = some (jI s.1) → ey (mm_xt L xs) 0 137 36 lv [] s.2 r)) (fun x => (∀ lv : jL, lv 0 = some (jR (some this)) → lv 1 = some (jI x1) → lv 2 = some (jI x2) → lv 3 = some (jI x3) → ey (mm_xt L xs) 0 137 103 lv [] x r)) o) : ∀ lv : jL, lv 0 = some (jR (some this)) → lv 1 = some (jI x1) → lv 2 = some (jI x2) → lv 3 = some (jI x3) → lv 4 = some (jI x4) → ey (mm_xt L xs) 0 137 71 lv [jI y0] h r := by
  intro lv f0 f1 f2 f3 f4
  unfold jd_137_b71 at e
  refine ey_istore (cd_137 rfl) mt_137 rfl ?_
  refine ey_aload_n (cd_137 rfl) f0 ?_
  obtain ⟨r24, e25, e⟩ := jbind e
  refine ey_getf_r (cd_137 rfl) mt_137 rfl rfl rfl e25 ?_
  refine ey_iload (cd_137 rfl) (jup_pi (lv := lv) (j := 4) (v := jI y0) (z := x4) f4) ?_
  refine ey_dup2 (cd_137 rfl) rfl rfl ?_
  obtain ⟨a26, e27, e⟩ := jbind e
  refine ey_rs (s0 := [jI x4, jR r24, jI x4, jR r24]) (s1 := [jI x4, jR (some a26), jI x4, jR r24]) (by rw [e27]) ?_
  obtain ⟨v28, e29, e⟩ := jbind e
  refine ey_iald (cd_137 rfl) e29 ?_
  refine ey_aload_n (cd_137 rfl) f0 ?_
  obtain ⟨r30, e31, e⟩ := jbind e
  refine ey_getf_r (cd_137 rfl) mt_137 rfl rfl rfl e31 ?_
  refine ey_iload (cd_137 rfl) (jup_pi (lv := lv) (j := 4) (v := jI y0) (z := x4) f4) ?_
  refine ey_iconst (cd_137 rfl) ?_
  refine ey_isub (cd_137 rfl) ?_
  obtain ⟨a32, e33, e⟩ := jbind e
  refine ey_rs (s0 := [jI (x4 - 1), jR r30, jI v28, jI x4, jR r24]) (s1 := [jI (x4 - 1), jR (some a32), jI v28, jI x4, jR r24]) (by rw [e33]) ?_
  obtain ⟨v34, e35, e⟩ := jbind e
  refine ey_iald (cd_137 rfl) e35 ?_
  refine ey_iload (cd_137 rfl) rfl ?_
  refine ey_iadd (cd_137 rfl) ?_
  refine ey_iconst (cd_137 rfl) ?_
  refine ey_ishr (cd_137 rfl) ?_
  refine ey_isub (cd_137 rfl) ?_
  obtain ⟨a36, e37, e⟩ := jbind e
  refine ey_rs (s0 := [jI (v28 - (jshr (v34 + y0) 1)), jI x4, jR r24]) (s1 := [jI (v28 - (jshr (v34 + y0) 1)), jI x4, jR (some a36)]) (by rw [e37]) ?_
  obtain ⟨h38, e39, e⟩ := jbind e
  refine ey_iast (cd_137 rfl) e39 ?_
  refine ey_iinc (cd_137 rfl) mt_137 rfl (jup_pi (lv := lv) (j := 4) (v := jI y0) (z := x4) f4) ?_
  refine ey_goto (cd_137 rfl) rfl ?_
  cases e
  exact K (jup (jup lv 5 (jI y0)) 4 (jI (x4 + 2))) f0 f1 f2 (jup_pi (lv := (jup lv 5 (jI y0))) (j := 3) (v := jI (x4 + 2)) (z := x3) f3) rfl
set_option maxRecDepth 100000 in
theorem jk_137_s36 {L : Nat} {xs : Nat → Int32} {this : Nat} {x1 : Int} {x2 : Int} {x3 : Int} {x4 : Int} {h : jH} {o : ((Int × jH) ⊕ jH)} {r : mm_R} (e : jd_137_s36 this x1 x2 x3 x4 h = some o) (K : jsm (fun s => (∀ lv : jL, lv 0 = some (jR (some this)) → lv 1 = some (jI x1) → lv 2 = some (jI x2) → lv 3 = some (jI x3) → lv 4 = some (jI s.1) → ey (mm_xt L xs) 0 137 36 lv [] s.2 r)) (fun x => (∀ lv : jL, lv 0 = some (jR (some this)) → lv 1 = some (jI x1) → lv 2 = some (jI x2) → lv 3 = some (jI x3) → ey (mm_xt L xs) 0 137 103 lv [] x r)) o) : ∀ lv : jL, lv 0 = some (jR (some this)) → lv 1 = some (jI x1) → lv 2 = some (jI x2) → lv 3 = some (jI x3) → lv 4 = some (jI x4) → ey (mm_xt L xs) 0 137 36 lv [] h r := by
  intro lv f0 f1 f2 f3 f4
  unfold jd_137_s36 at e
  refine ey_iload (cd_137 rfl) f4 ?_
  refine ey_iload_n (cd_137 rfl) f3 ?_
  by_cases q16 : (jw x3) ≤ (jw x4)
  · rw [if_pos q16] at e
    refine ey_cge (cd_137 rfl) rfl rfl rfl q16 ?_
    cases e
    exact K lv f0 f1 f2 f3
  · rw [if_neg q16] at e
    refine ey_nge (cd_137 rfl) rfl rfl rfl q16 ?_
    refine ey_iload (cd_137 rfl) f4 ?_
    refine ey_iconst (cd_137 rfl) ?_
    refine ey_iadd (cd_137 rfl) ?_
    refine ey_iload_n (cd_137 rfl) f3 ?_
    by_cases q17 : (jw x3) ≤ (jw (x4 + 1))
    · rw [if_pos q17] at e
      refine ey_cge (cd_137 rfl) rfl rfl rfl q17 ?_
      refine ey_aload_n (cd_137 rfl) f0 ?_
      obtain ⟨r18, e19, e⟩ := jbind e
      refine ey_getf_r (cd_137 rfl) mt_137 rfl rfl rfl e19 ?_
      refine ey_iload (cd_137 rfl) f4 ?_
      refine ey_iconst (cd_137 rfl) ?_
      refine ey_isub (cd_137 rfl) ?_
      obtain ⟨a20, e21, e⟩ := jbind e
      refine ey_rs (s0 := [jI (x4 - 1), jR r18]) (s1 := [jI (x4 - 1), jR (some a20)]) (by rw [e21]) ?_
      obtain ⟨v22, e23, e⟩ := jbind e
      refine ey_iald (cd_137 rfl) e23 ?_
      exact jk_137_b71 e K lv f0 f1 f2 f3 f4
    · rw [if_neg q17] at e
      refine ey_nge (cd_137 rfl) rfl rfl rfl q17 ?_
      refine ey_aload_n (cd_137 rfl) f0 ?_
      obtain ⟨r40, e41, e⟩ := jbind e
      refine ey_getf_r (cd_137 rfl) mt_137 rfl rfl rfl e41 ?_
      refine ey_iload (cd_137 rfl) f4 ?_
      refine ey_iconst (cd_137 rfl) ?_
      refine ey_iadd (cd_137 rfl) ?_
      obtain ⟨a42, e43, e⟩ := jbind e
      refine ey_rs (s0 := [jI (x4 + 1), jR r40]) (s1 := [jI (x4 + 1), jR (some a42)]) (by rw [e43]) ?_
      obtain ⟨v44, e45, e⟩ := jbind e
      refine ey_iald (cd_137 rfl) e45 ?_
      refine ey_goto (cd_137 rfl) rfl ?_
      exact jk_137_b71 e K lv f0 f1 f2 f3 f4
theorem jk_137_l36 {L : Nat} {xs : Nat → Int32} {this : Nat} {x1 : Int} {x2 : Int} {x3 : Int} {x4 : Int} {h : jH} {x : jH} {r : mm_R} (e : jd_137_l36 this x1 x2 x3 x4 h = some x) (K : (∀ lv : jL, lv 0 = some (jR (some this)) → lv 1 = some (jI x1) → lv 2 = some (jI x2) → lv 3 = some (jI x3) → ey (mm_xt L xs) 0 137 103 lv [] x r)) : ∀ lv : jL, lv 0 = some (jR (some this)) → lv 1 = some (jI x1) → lv 2 = some (jI x2) → lv 3 = some (jI x3) → lv 4 = some (jI x4) → ey (mm_xt L xs) 0 137 36 lv [] h r := by
  unfold jd_137_l36 at e
  exact jlp_ok2 (P := fun s => ∀ lv : jL, lv 0 = some (jR (some this)) → lv 1 = some (jI x1) → lv 2 = some (jI x2) → lv 3 = some (jI x3) → lv 4 = some (jI s.1) → ey (mm_xt L xs) 0 137 36 lv [] s.2 r) (Q := fun x => (∀ lv : jL, lv 0 = some (jR (some this)) → lv 1 = some (jI x1) → lv 2 = some (jI x2) → lv 3 = some (jI x3) → ey (mm_xt L xs) 0 137 103 lv [] x r)) (fun s q hq hk => jk_137_s36 hq hk) jfu _ x e K
set_option maxRecDepth 100000 in
theorem jk_137_b138 {L : Nat} {xs : Nat → Int32} {this : Nat} {x1 : Int} {x2 : Int} {x3 : Int} {x4 : Int} {y0 : Int} {h : jH} {o : ((Int × jH) ⊕ jH)} {r : mm_R} (e : jd_137_b138 this x1 x2 x3 x4 y0 h = some o) (K : jsm (fun s => (∀ lv : jL, lv 0 = some (jR (some this)) → lv 1 = some (jI x1) → lv 2 = some (jI x2) → lv 3 = some (jI x3) → lv 4 = some (jI s.1) → ey (mm_xt L xs) 0 137 106 lv [] s.2 r)) (fun x => (∀ lv : jL, lv 0 = some (jR (some this)) → lv 1 = some (jI x1) → lv 2 = some (jI x2) → lv 3 = some (jI x3) → ey (mm_xt L xs) 0 137 172 lv [] x r)) o) : ∀ lv : jL, lv 0 = some (jR (some this)) → lv 1 = some (jI x1) → lv 2 = some (jI x2) → lv 3 = some (jI x3) → lv 4 = some (jI x4) → ey (mm_xt L xs) 0 137 138 lv [jI y0] h r := by
  intro lv f0 f1 f2 f3 f4
  unfold jd_137_b138 at e
  refine ey_istore (cd_137 rfl) mt_137 rfl ?_
  refine ey_aload_n (cd_137 rfl) f0 ?_
  obtain ⟨r56, e57, e⟩ := jbind e
  refine ey_getf_r (cd_137 rfl) mt_137 rfl rfl rfl e57 ?_
  refine ey_iload (cd_137 rfl) (jup_pi (lv := lv) (j := 4) (v := jI y0) (z := x4) f4) ?_
  refine ey_dup2 (cd_137 rfl) rfl rfl ?_
  obtain ⟨a58, e59, e⟩ := jbind e
  refine ey_rs (s0 := [jI x4, jR r56, jI x4, jR r56]) (s1 := [jI x4, jR (some a58), jI x4, jR r56]) (by rw [e59]) ?_
  obtain ⟨v60, e61, e⟩ := jbind e
  refine ey_iald (cd_137 rfl) e61 ?_
  refine ey_iload (cd_137 rfl) rfl ?_
  refine ey_aload_n (cd_137 rfl) f0 ?_
  obtain ⟨r62, e63, e⟩ := jbind e
  refine ey_getf_r (cd_137 rfl) mt_137 rfl rfl rfl e63 ?_
  refine ey_iload (cd_137 rfl) (jup_pi (lv := lv) (j := 4) (v := jI y0) (z := x4) f4) ?_
  refine ey_iconst (cd_137 rfl) ?_
  refine ey_iadd (cd_137 rfl) ?_
  obtain ⟨a64, e65, e⟩ := jbind e
  refine ey_rs (s0 := [jI (x4 + 1), jR r62, jI y0, jI v60, jI x4, jR r56]) (s1 := [jI (x4 + 1), jR (some a64), jI y0, jI v60, jI x4, jR r56]) (by rw [e65]) ?_
  obtain ⟨v66, e67, e⟩ := jbind e
  refine ey_iald (cd_137 rfl) e67 ?_
  refine ey_iadd (cd_137 rfl) ?_
  refine ey_iconst (cd_137 rfl) ?_
  refine ey_iadd (cd_137 rfl) ?_
  refine ey_iconst (cd_137 rfl) ?_
  refine ey_ishr (cd_137 rfl) ?_
  refine ey_iadd (cd_137 rfl) ?_
  obtain ⟨a68, e69, e⟩ := jbind e
  refine ey_rs (s0 := [jI (v60 + (jshr ((y0 + v66) + 2) 2)), jI x4, jR r56]) (s1 := [jI (v60 + (jshr ((y0 + v66) + 2) 2)), jI x4, jR (some a68)]) (by rw [e69]) ?_
  obtain ⟨h70, e71, e⟩ := jbind e
  refine ey_iast (cd_137 rfl) e71 ?_
  refine ey_iinc (cd_137 rfl) mt_137 rfl (jup_pi (lv := lv) (j := 4) (v := jI y0) (z := x4) f4) ?_
  refine ey_goto (cd_137 rfl) rfl ?_
  cases e
  exact K (jup (jup lv 5 (jI y0)) 4 (jI (x4 + 2))) f0 f1 f2 (jup_pi (lv := (jup lv 5 (jI y0))) (j := 3) (v := jI (x4 + 2)) (z := x3) f3) rfl
set_option maxRecDepth 100000 in
theorem jk_137_s106 {L : Nat} {xs : Nat → Int32} {this : Nat} {x1 : Int} {x2 : Int} {x3 : Int} {x4 : Int} {h : jH} {o : ((Int × jH) ⊕ jH)} {r : mm_R} (e : jd_137_s106 this x1 x2 x3 x4 h = some o) (K : jsm (fun s => (∀ lv : jL, lv 0 = some (jR (some this)) → lv 1 = some (jI x1) → lv 2 = some (jI x2) → lv 3 = some (jI x3) → lv 4 = some (jI s.1) → ey (mm_xt L xs) 0 137 106 lv [] s.2 r)) (fun x => (∀ lv : jL, lv 0 = some (jR (some this)) → lv 1 = some (jI x1) → lv 2 = some (jI x2) → lv 3 = some (jI x3) → ey (mm_xt L xs) 0 137 172 lv [] x r)) o) : ∀ lv : jL, lv 0 = some (jR (some this)) → lv 1 = some (jI x1) → lv 2 = some (jI x2) → lv 3 = some (jI x3) → lv 4 = some (jI x4) → ey (mm_xt L xs) 0 137 106 lv [] h r := by
  intro lv f0 f1 f2 f3 f4
  unfold jd_137_s106 at e
  refine ey_iload (cd_137 rfl) f4 ?_
  refine ey_iload_n (cd_137 rfl) f3 ?_
  by_cases q48 : (jw x3) ≤ (jw x4)
  · rw [if_pos q48] at e
    refine ey_cge (cd_137 rfl) rfl rfl rfl q48 ?_
    cases e
    exact K lv f0 f1 f2 f3
  · rw [if_neg q48] at e
    refine ey_nge (cd_137 rfl) rfl rfl rfl q48 ?_
    refine ey_iload (cd_137 rfl) f4 ?_
    by_cases q49 : (jw x4) ≤ 0
    · rw [if_pos q49] at e
      refine ey_zle (cd_137 rfl) rfl rfl q49 ?_
      refine ey_aload_n (cd_137 rfl) f0 ?_
      obtain ⟨r50, e51, e⟩ := jbind e
      refine ey_getf_r (cd_137 rfl) mt_137 rfl rfl rfl e51 ?_
      refine ey_iload (cd_137 rfl) f4 ?_
      refine ey_iconst (cd_137 rfl) ?_
      refine ey_iadd (cd_137 rfl) ?_
      obtain ⟨a52, e53, e⟩ := jbind e
      refine ey_rs (s0 := [jI (x4 + 1), jR r50]) (s1 := [jI (x4 + 1), jR (some a52)]) (by rw [e53]) ?_
      obtain ⟨v54, e55, e⟩ := jbind e
      refine ey_iald (cd_137 rfl) e55 ?_
      exact jk_137_b138 e K lv f0 f1 f2 f3 f4
    · rw [if_neg q49] at e
      refine ey_yle (cd_137 rfl) rfl rfl q49 ?_
      refine ey_aload_n (cd_137 rfl) f0 ?_
      obtain ⟨r72, e73, e⟩ := jbind e
      refine ey_getf_r (cd_137 rfl) mt_137 rfl rfl rfl e73 ?_
      refine ey_iload (cd_137 rfl) f4 ?_
      refine ey_iconst (cd_137 rfl) ?_
      refine ey_isub (cd_137 rfl) ?_
      obtain ⟨a74, e75, e⟩ := jbind e
      refine ey_rs (s0 := [jI (x4 - 1), jR r72]) (s1 := [jI (x4 - 1), jR (some a74)]) (by rw [e75]) ?_
      obtain ⟨v76, e77, e⟩ := jbind e
      refine ey_iald (cd_137 rfl) e77 ?_
      refine ey_goto (cd_137 rfl) rfl ?_
      exact jk_137_b138 e K lv f0 f1 f2 f3 f4
theorem jk_137_l106 {L : Nat} {xs : Nat → Int32} {this : Nat} {x1 : Int} {x2 : Int} {x3 : Int} {x4 : Int} {h : jH} {x : jH} {r : mm_R} (e : jd_137_l106 this x1 x2 x3 x4 h = some x) (K : (∀ lv : jL, lv 0 = some (jR (some this)) → lv 1 = some (jI x1) → lv 2 = some (jI x2) → lv 3 = some (jI x3) → ey (mm_xt L xs) 0 137 172 lv [] x r)) : ∀ lv : jL, lv 0 = some (jR (some this)) → lv 1 = some (jI x1) → lv 2 = some (jI x2) → lv 3 = some (jI x3) → lv 4 = some (jI x4) → ey (mm_xt L xs) 0 137 106 lv [] h r := by
  unfold jd_137_l106 at e
  exact jlp_ok2 (P := fun s => ∀ lv : jL, lv 0 = some (jR (some this)) → lv 1 = some (jI x1) → lv 2 = some (jI x2) → lv 3 = some (jI x3) → lv 4 = some (jI s.1) → ey (mm_xt L xs) 0 137 106 lv [] s.2 r) (Q := fun x => (∀ lv : jL, lv 0 = some (jR (some this)) → lv 1 = some (jI x1) → lv 2 = some (jI x2) → lv 3 = some (jI x3) → ey (mm_xt L xs) 0 137 172 lv [] x r)) (fun s q hq hk => jk_137_s106 hq hk) jfu _ x e K
set_option maxRecDepth 100000 in
theorem jk_137_b203 {L : Nat} {xs : Nat → Int32} {this : Nat} {x1 : Int} {x2 : Int} {x3 : Int} {x4 : Int} {y0 : Int} {h : jH} {o : ((Int × jH) ⊕ jH)} {r : mm_R} (e : jd_137_b203 this x1 x2 x3 x4 y0 h = some o) (K : jsm (fun s => (∀ lv : jL, lv 0 = some (jR (some this)) → lv 1 = some (jI x1) → lv 2 = some (jI x2) → lv 3 = some (jI x3) → lv 4 = some (jI s.1) → ey (mm_xt L xs) 0 137 175 lv [] s.2 r)) (fun x => (∀ lv : jL, ey (mm_xt L xs) 0 137 229 lv [] x r)) o) : ∀ lv : jL, lv 0 = some (jR (some this)) → lv 1 = some (jI x1) → lv 2 = some (jI x2) → lv 3 = some (jI x3) → lv 4 = some (jI x4) → ey (mm_xt L xs) 0 137 203 lv [jI y0] h r := by
  intro lv f0 f1 f2 f3 f4
  unfold jd_137_b203 at e
  refine ey_istore (cd_137 rfl) mt_137 rfl ?_
  refine ey_aload_n (cd_137 rfl) f0 ?_
  obtain ⟨r81, e82, e⟩ := jbind e
  refine ey_getf_r (cd_137 rfl) mt_137 rfl rfl rfl e82 ?_
  refine ey_iload_n (cd_137 rfl) f1 ?_
  refine ey_iload (cd_137 rfl) rfl ?_
  refine ey_iload_n (cd_137 rfl) f2 ?_
  refine ey_imul (cd_137 rfl) ?_
  refine ey_iadd (cd_137 rfl) ?_
  refine ey_aload_n (cd_137 rfl) f0 ?_
  obtain ⟨r83, e84, e⟩ := jbind e
  refine ey_getf_r (cd_137 rfl) mt_137 rfl rfl rfl e84 ?_
  refine ey_iload (cd_137 rfl) (jup_pi (lv := lv) (j := 4) (v := jI y0) (z := x4) f4) ?_
  obtain ⟨a85, e86, e⟩ := jbind e
  refine ey_rs (s0 := [jI x4, jR r83, jI (x1 + (y0 * x2)), jR r81]) (s1 := [jI x4, jR (some a85), jI (x1 + (y0 * x2)), jR r81]) (by rw [e86]) ?_
  obtain ⟨v87, e88, e⟩ := jbind e
  refine ey_iald (cd_137 rfl) e88 ?_
  obtain ⟨a89, e90, e⟩ := jbind e
  refine ey_rs (s0 := [jI v87, jI (x1 + (y0 * x2)), jR r81]) (s1 := [jI v87, jI (x1 + (y0 * x2)), jR (some a89)]) (by rw [e90]) ?_
  obtain ⟨h91, e92, e⟩ := jbind e
  refine ey_iast (cd_137 rfl) e92 ?_
  refine ey_iinc (cd_137 rfl) mt_137 rfl (jup_pi (lv := lv) (j := 4) (v := jI y0) (z := x4) f4) ?_
  refine ey_goto (cd_137 rfl) rfl ?_
  cases e
  exact K (jup (jup lv 5 (jI y0)) 4 (jI (x4 + 1))) f0 f1 f2 (jup_pi (lv := (jup lv 5 (jI y0))) (j := 3) (v := jI (x4 + 1)) (z := x3) f3) rfl
set_option maxRecDepth 100000 in
theorem jk_137_s175 {L : Nat} {xs : Nat → Int32} {this : Nat} {x1 : Int} {x2 : Int} {x3 : Int} {x4 : Int} {h : jH} {o : ((Int × jH) ⊕ jH)} {r : mm_R} (e : jd_137_s175 this x1 x2 x3 x4 h = some o) (K : jsm (fun s => (∀ lv : jL, lv 0 = some (jR (some this)) → lv 1 = some (jI x1) → lv 2 = some (jI x2) → lv 3 = some (jI x3) → lv 4 = some (jI s.1) → ey (mm_xt L xs) 0 137 175 lv [] s.2 r)) (fun x => (∀ lv : jL, ey (mm_xt L xs) 0 137 229 lv [] x r)) o) : ∀ lv : jL, lv 0 = some (jR (some this)) → lv 1 = some (jI x1) → lv 2 = some (jI x2) → lv 3 = some (jI x3) → lv 4 = some (jI x4) → ey (mm_xt L xs) 0 137 175 lv [] h r := by
  intro lv f0 f1 f2 f3 f4
  unfold jd_137_s175 at e
  refine ey_iload (cd_137 rfl) f4 ?_
  refine ey_iload_n (cd_137 rfl) f3 ?_
  by_cases q80 : (jw x3) ≤ (jw x4)
  · rw [if_pos q80] at e
    refine ey_cge (cd_137 rfl) rfl rfl rfl q80 ?_
    cases e
    exact K lv 
  · rw [if_neg q80] at e
    refine ey_nge (cd_137 rfl) rfl rfl rfl q80 ?_
    refine ey_iload (cd_137 rfl) f4 ?_
    refine ey_iconst (cd_137 rfl) ?_
    refine ey_iand (cd_137 rfl) ?_
    have K93 : ∀ lv : jL, lv 0 = some (jR (some this)) → lv 1 = some (jI x1) → lv 2 = some (jI x2) → lv 3 = some (jI x3) → lv 4 = some (jI x4) → ey (mm_xt L xs) 0 137 203 lv [jI (if (jw (jand x4 1)) = 0 then (jdiv x4 2) else ((jdiv x3 2) + (jdiv x4 2)))] h r := by
      intro lv g0 g1 g2 g3 g4
      exact jk_137_b203 e K lv g0 g1 g2 g3 g4
    by_cases q94 : (jw (jand x4 1)) = 0
    · refine ey_yne (cd_137 rfl) rfl rfl (fun w => w q94) ?_
      refine ey_iload (cd_137 rfl) f4 ?_
      refine ey_iconst (cd_137 rfl) ?_
      refine ey_idiv (cd_137 rfl) (by decide) ?_
      refine ey_goto (cd_137 rfl) rfl ?_
      exact ey_rs (s0 := [jI (jdiv x4 2)]) (s1 := [jI (if (jw (jand x4 1)) = 0 then (jdiv x4 2) else ((jdiv x3 2) + (jdiv x4 2)))]) (by rw [show ((if (jw (jand x4 1)) = 0 then (jdiv x4 2) else ((jdiv x3 2) + (jdiv x4 2))) : Int) = (jdiv x4 2) from (if_pos q94)]) (K93 lv f0 f1 f2 f3 f4)
    · refine ey_zne (cd_137 rfl) rfl rfl q94 ?_
      refine ey_iload_n (cd_137 rfl) f3 ?_
      refine ey_iconst (cd_137 rfl) ?_
      refine ey_idiv (cd_137 rfl) (by decide) ?_
      refine ey_iload (cd_137 rfl) f4 ?_
      refine ey_iconst (cd_137 rfl) ?_
      refine ey_idiv (cd_137 rfl) (by decide) ?_
      refine ey_iadd (cd_137 rfl) ?_
      exact ey_rs (s0 := [jI ((jdiv x3 2) + (jdiv x4 2))]) (s1 := [jI (if (jw (jand x4 1)) = 0 then (jdiv x4 2) else ((jdiv x3 2) + (jdiv x4 2)))]) (by rw [show ((if (jw (jand x4 1)) = 0 then (jdiv x4 2) else ((jdiv x3 2) + (jdiv x4 2))) : Int) = ((jdiv x3 2) + (jdiv x4 2)) from (if_neg q94)]) (K93 lv f0 f1 f2 f3 f4)
theorem jk_137_l175 {L : Nat} {xs : Nat → Int32} {this : Nat} {x1 : Int} {x2 : Int} {x3 : Int} {x4 : Int} {h : jH} {x : jH} {r : mm_R} (e : jd_137_l175 this x1 x2 x3 x4 h = some x) (K : (∀ lv : jL, ey (mm_xt L xs) 0 137 229 lv [] x r)) : ∀ lv : jL, lv 0 = some (jR (some this)) → lv 1 = some (jI x1) → lv 2 = some (jI x2) → lv 3 = some (jI x3) → lv 4 = some (jI x4) → ey (mm_xt L xs) 0 137 175 lv [] h r := by
  unfold jd_137_l175 at e
  exact jlp_ok2 (P := fun s => ∀ lv : jL, lv 0 = some (jR (some this)) → lv 1 = some (jI x1) → lv 2 = some (jI x2) → lv 3 = some (jI x3) → lv 4 = some (jI s.1) → ey (mm_xt L xs) 0 137 175 lv [] s.2 r) (Q := fun x => (∀ lv : jL, ey (mm_xt L xs) 0 137 229 lv [] x r)) (fun s q hq hk => jk_137_s175 hq hk) jfu _ x e K
set_option maxRecDepth 100000 in
theorem ok_137 {L : Nat} {xs : Nat → Int32} {this : Nat} {p0 : Int} {p1 : Int} {p2 : Int} {h : jH} {o : jH} (e : jd_137 this p0 p1 p2 h = some o) : mm_Runs (mm_xt L xs) 1 137 ([jR (some this), jI p0, jI p1, jI p2].map jcv) (jaH h) (.inl (none, jaH o)) := by
  refine ey_run0 _ mt_137 (jsl_s rfl) ?_
  unfold jd_137 at e
  refine ey_iconst (cd_137 rfl) ?_
  refine ey_istore (cd_137 rfl) mt_137 rfl ?_
  obtain ⟨x14, e15, e⟩ := jbind e
  refine jk_137_l3 e15 ?_ (jup (jlf (jla 0 [jR (some this), jI p0, jI p1, jI p2])) 4 (jI 0)) rfl rfl rfl (jup_pi (lv := (jlf (jla 0 [jR (some this), jI p0, jI p1, jI p2]))) (j := 3) (v := jI 0) (z := p2) rfl) rfl
  intro lv g0 g1 g2 g3
  refine ey_iconst (cd_137 rfl) ?_
  refine ey_istore (cd_137 rfl) mt_137 rfl ?_
  obtain ⟨x46, e47, e⟩ := jbind e
  refine jk_137_l36 e47 ?_ (jup lv 4 (jI 1)) g0 g1 g2 (jup_pi (lv := lv) (j := 3) (v := jI 1) (z := p2) g3) rfl
  intro lv g0 g1 g2 g3
  refine ey_iconst (cd_137 rfl) ?_
  refine ey_istore (cd_137 rfl) mt_137 rfl ?_
  obtain ⟨x78, e79, e⟩ := jbind e
  refine jk_137_l106 e79 ?_ (jup lv 4 (jI 0)) g0 g1 g2 (jup_pi (lv := lv) (j := 3) (v := jI 0) (z := p2) g3) rfl
  intro lv g0 g1 g2 g3
  refine ey_iconst (cd_137 rfl) ?_
  refine ey_istore (cd_137 rfl) mt_137 rfl ?_
  obtain ⟨x95, e96, e⟩ := jbind e
  refine jk_137_l175 e96 ?_ (jup lv 4 (jI 0)) g0 g1 g2 (jup_pi (lv := lv) (j := 3) (v := jI 0) (z := p2) g3) rfl
  intro lv 
  cases e
  exact ey_retv (cd_137 rfl) mt_137 rfl
theorem cd_135 {pc : Nat} {i : Instr × Nat} (h : mm_lk mm_c135 pc = some i) : mm_cd 135 pc = some i := h
theorem mt_135 : mm_MT 135 = (10, 5, none, 3, 0, []) := rfl
set_option maxRecDepth 100000 in
theorem jk_135_s3 {L : Nat} {xs : Nat → Int32} {this : Nat} {x1 : Int} {x2 : Int} {x3 : Int} {x4 : Int} {h : jH} {o : ((Int × jH) ⊕ jH)} {r : mm_R} (e : jd_135_s3 this x1 x2 x3 x4 h = some o) (K : jsm (fun s => (∀ lv : jL, lv 0 = some (jR (some this)) → lv 1 = some (jI x1) → lv 2 = some (jI x2) → lv 3 = some (jI x3) → lv 4 = some (jI s.1) → ey (mm_xt L xs) 1 135 3 lv [] s.2 r)) (fun x => (∀ lv : jL, lv 0 = some (jR (some this)) → lv 1 = some (jI x1) → lv 2 = some (jI x2) → lv 3 = some (jI x3) → ey (mm_xt L xs) 1 135 25 lv [] x r)) o) : ∀ lv : jL, lv 0 = some (jR (some this)) → lv 1 = some (jI x1) → lv 2 = some (jI x2) → lv 3 = some (jI x3) → lv 4 = some (jI x4) → ey (mm_xt L xs) 1 135 3 lv [] h r := by
  intro lv f0 f1 f2 f3 f4
  unfold jd_135_s3 at e
  refine ey_iload (cd_135 rfl) f4 ?_
  refine ey_iload_n (cd_135 rfl) f3 ?_
  by_cases q1 : (jw x3) ≤ (jw x4)
  · rw [if_pos q1] at e
    refine ey_cge (cd_135 rfl) rfl rfl rfl q1 ?_
    cases e
    exact K lv f0 f1 f2 f3
  · rw [if_neg q1] at e
    refine ey_nge (cd_135 rfl) rfl rfl rfl q1 ?_
    refine ey_aload_n (cd_135 rfl) f0 ?_
    refine ey_iload (cd_135 rfl) f4 ?_
    refine ey_iload_n (cd_135 rfl) f1 ?_
    refine ey_imul (cd_135 rfl) ?_
    refine ey_iconst (cd_135 rfl) ?_
    refine ey_iload_n (cd_135 rfl) f2 ?_
    obtain ⟨u2, e3, e⟩ := jbind e
    obtain ⟨h4, e5, e⟩ := jbind e
    refine ey_cv (s0 := [jI x2, jI 1, jI (x4 * x1), jR (some this)]) (s1 := []) (st' := []) (cd_135 rfl) mt_135 mt_137 rfl rfl rfl (jck_s e3) rfl (jsml_s rfl) rfl (ok_137 e5) ?_
    refine ey_iinc (cd_135 rfl) mt_135 rfl f4 ?_
    refine ey_goto (cd_135 rfl) rfl ?_
    cases e
    exact K (jup lv 4 (jI (x4 + 1))) f0 f1 f2 (jup_pi (lv := lv) (j := 3) (v := jI (x4 + 1)) (z := x3) f3) rfl
theorem jk_135_l3 {L : Nat} {xs : Nat → Int32} {this : Nat} {x1 : Int} {x2 : Int} {x3 : Int} {x4 : Int} {h : jH} {x : jH} {r : mm_R} (e : jd_135_l3 this x1 x2 x3 x4 h = some x) (K : (∀ lv : jL, lv 0 = some (jR (some this)) → lv 1 = some (jI x1) → lv 2 = some (jI x2) → lv 3 = some (jI x3) → ey (mm_xt L xs) 1 135 25 lv [] x r)) : ∀ lv : jL, lv 0 = some (jR (some this)) → lv 1 = some (jI x1) → lv 2 = some (jI x2) → lv 3 = some (jI x3) → lv 4 = some (jI x4) → ey (mm_xt L xs) 1 135 3 lv [] h r := by
  unfold jd_135_l3 at e
  exact jlp_ok2 (P := fun s => ∀ lv : jL, lv 0 = some (jR (some this)) → lv 1 = some (jI x1) → lv 2 = some (jI x2) → lv 3 = some (jI x3) → lv 4 = some (jI s.1) → ey (mm_xt L xs) 1 135 3 lv [] s.2 r) (Q := fun x => (∀ lv : jL, lv 0 = some (jR (some this)) → lv 1 = some (jI x1) → lv 2 = some (jI x2) → lv 3 = some (jI x3) → ey (mm_xt L xs) 1 135 25 lv [] x r)) (fun s q hq hk => jk_135_s3 hq hk) jfu _ x e K
set_option maxRecDepth 100000 in
theorem jk_135_s28 {L : Nat} {xs : Nat → Int32} {this : Nat} {x1 : Int} {x2 : Int} {x3 : Int} {x4 : Int} {h : jH} {o : ((Int × jH) ⊕ jH)} {r : mm_R} (e : jd_135_s28 this x1 x2 x3 x4 h = some o) (K : jsm (fun s => (∀ lv : jL, lv 0 = some (jR (some this)) → lv 1 = some (jI x1) → lv 2 = some (jI x2) → lv 3 = some (jI x3) → lv 4 = some (jI s.1) → ey (mm_xt L xs) 1 135 28 lv [] s.2 r)) (fun x => (∀ lv : jL, ey (mm_xt L xs) 1 135 48 lv [] x r)) o) : ∀ lv : jL, lv 0 = some (jR (some this)) → lv 1 = some (jI x1) → lv 2 = some (jI x2) → lv 3 = some (jI x3) → lv 4 = some (jI x4) → ey (mm_xt L xs) 1 135 28 lv [] h r := by
  intro lv f0 f1 f2 f3 f4
  unfold jd_135_s28 at e
  refine ey_iload (cd_135 rfl) f4 ?_
  refine ey_iload_n (cd_135 rfl) f2 ?_
  by_cases q8 : (jw x2) ≤ (jw x4)
  · rw [if_pos q8] at e
    refine ey_cge (cd_135 rfl) rfl rfl rfl q8 ?_
    cases e
    exact K lv 
  · rw [if_neg q8] at e
    refine ey_nge (cd_135 rfl) rfl rfl rfl q8 ?_
    refine ey_aload_n (cd_135 rfl) f0 ?_
    refine ey_iload (cd_135 rfl) f4 ?_
    refine ey_iload_n (cd_135 rfl) f1 ?_
    refine ey_iload_n (cd_135 rfl) f3 ?_
    obtain ⟨u9, e10, e⟩ := jbind e
    obtain ⟨h11, e12, e⟩ := jbind e
    refine ey_cv (s0 := [jI x3, jI x1, jI x4, jR (some this)]) (s1 := []) (st' := []) (cd_135 rfl) mt_135 mt_137 rfl rfl rfl (jck_s e10) rfl (jsml_s rfl) rfl (ok_137 e12) ?_
    refine ey_iinc (cd_135 rfl) mt_135 rfl f4 ?_
    refine ey_goto (cd_135 rfl) rfl ?_
    cases e
    exact K (jup lv 4 (jI (x4 + 1))) f0 f1 f2 (jup_pi (lv := lv) (j := 3) (v := jI (x4 + 1)) (z := x3) f3) rfl
theorem jk_135_l28 {L : Nat} {xs : Nat → Int32} {this : Nat} {x1 : Int} {x2 : Int} {x3 : Int} {x4 : Int} {h : jH} {x : jH} {r : mm_R} (e : jd_135_l28 this x1 x2 x3 x4 h = some x) (K : (∀ lv : jL, ey (mm_xt L xs) 1 135 48 lv [] x r)) : ∀ lv : jL, lv 0 = some (jR (some this)) → lv 1 = some (jI x1) → lv 2 = some (jI x2) → lv 3 = some (jI x3) → lv 4 = some (jI x4) → ey (mm_xt L xs) 1 135 28 lv [] h r := by
  unfold jd_135_l28 at e
  exact jlp_ok2 (P := fun s => ∀ lv : jL, lv 0 = some (jR (some this)) → lv 1 = some (jI x1) → lv 2 = some (jI x2) → lv 3 = some (jI x3) → lv 4 = some (jI s.1) → ey (mm_xt L xs) 1 135 28 lv [] s.2 r) (Q := fun x => (∀ lv : jL, ey (mm_xt L xs) 1 135 48 lv [] x r)) (fun s q hq hk => jk_135_s28 hq hk) jfu _ x e K
set_option maxRecDepth 100000 in
theorem ok_135 {L : Nat} {xs : Nat → Int32} {this : Nat} {p0 : Int} {p1 : Int} {p2 : Int} {h : jH} {o : jH} (e : jd_135 this p0 p1 p2 h = some o) : mm_Runs (mm_xt L xs) 2 135 ([jR (some this), jI p0, jI p1, jI p2].map jcv) (jaH h) (.inl (none, jaH o)) := by
  refine ey_run0 _ mt_135 (jsl_s rfl) ?_
  unfold jd_135 at e
  refine ey_iconst (cd_135 rfl) ?_
  refine ey_istore (cd_135 rfl) mt_135 rfl ?_
  obtain ⟨x6, e7, e⟩ := jbind e
  refine jk_135_l3 e7 ?_ (jup (jlf (jla 0 [jR (some this), jI p0, jI p1, jI p2])) 4 (jI 0)) rfl rfl rfl (jup_pi (lv := (jlf (jla 0 [jR (some this), jI p0, jI p1, jI p2]))) (j := 3) (v := jI 0) (z := p2) rfl) rfl
  intro lv g0 g1 g2 g3
  refine ey_iconst (cd_135 rfl) ?_
  refine ey_istore (cd_135 rfl) mt_135 rfl ?_
  obtain ⟨x13, e14, e⟩ := jbind e
  refine jk_135_l28 e14 ?_ (jup lv 4 (jI 0)) g0 g1 g2 (jup_pi (lv := lv) (j := 3) (v := jI 0) (z := p2) g3) rfl
  intro lv 
  cases e
  exact ey_retv (cd_135 rfl) mt_135 rfl
theorem cd_134 {pc : Nat} {i : Instr × Nat} (h : mm_lk mm_c134 pc = some i) : mm_cd 134 pc = some i := h
theorem mt_134 : mm_MT 134 = (10, 10, none, 3, 0, []) := rfl
set_option maxRecDepth 100000 in
theorem jk_134_s31 {L : Nat} {xs : Nat → Int32} {this : Nat} {x1 : Option Nat} {x2 : Option Nat} {x4 : Int} {x5 : Int} {x6 : Int} {x7 : Int} {x8 : Int} {h : jH} {o : ((Int × jH) ⊕ jH)} {r : mm_R} (e : jd_134_s31 this x1 x2 x4 x5 x6 x7 x8 h = some o) (K : jsm (fun s => (∀ lv : jL, lv 0 = some (jR (some this)) → lv 1 = some (jR x1) → lv 2 = some (jR x2) → lv 4 = some (jI x4) → lv 5 = some (jI x5) → lv 6 = some (jI x6) → lv 7 = some (jI x7) → lv 8 = some (jI s.1) → ey (mm_xt L xs) 2 134 31 lv [] s.2 r)) (fun x => (∀ lv : jL, lv 0 = some (jR (some this)) → lv 1 = some (jR x1) → lv 4 = some (jI x4) → lv 5 = some (jI x5) → lv 6 = some (jI x6) → ey (mm_xt L xs) 2 134 61 lv [] x r)) o) : ∀ lv : jL, lv 0 = some (jR (some this)) → lv 1 = some (jR x1) → lv 2 = some (jR x2) → lv 4 = some (jI x4) → lv 5 = some (jI x5) → lv 6 = some (jI x6) → lv 7 = some (jI x7) → lv 8 = some (jI x8) → ey (mm_xt L xs) 2 134 31 lv [] h r := by
  intro lv f0 f1 f2 f4 f5 f6 f7 f8
  unfold jd_134_s31 at e
  refine ey_iload (cd_134 rfl) f8 ?_
  refine ey_iload (cd_134 rfl) f6 ?_
  by_cases q19 : (jw x6) ≤ (jw x8)
  · rw [if_pos q19] at e
    refine ey_cge (cd_134 rfl) rfl rfl rfl q19 ?_
    cases e
    exact K lv f0 f1 f4 f5 f6
  · rw [if_neg q19] at e
    refine ey_nge (cd_134 rfl) rfl rfl rfl q19 ?_
    refine ey_aload_n (cd_134 rfl) f0 ?_
    obtain ⟨r20, e21, e⟩ := jbind e
    refine ey_getf_r (cd_134 rfl) mt_134 rfl rfl rfl e21 ?_
    refine ey_iload (cd_134 rfl) f8 ?_
    refine ey_aload_n (cd_134 rfl) f2 ?_
    obtain ⟨a22, e23, e⟩ := jbind e
    refine ey_rs (s0 := [jR x2, jI x8, jR r20]) (s1 := [jR (some a22), jI x8, jR r20]) (by rw [e23]) ?_
    obtain ⟨r24, e25, e⟩ := jbind e
    refine ey_getf_r (cd_134 rfl) mt_134 rfl rfl rfl e25 ?_
    refine ey_iload (cd_134 rfl) f7 ?_
    refine ey_iload (cd_134 rfl) f8 ?_
    refine ey_iadd (cd_134 rfl) ?_
    obtain ⟨a26, e27, e⟩ := jbind e
    refine ey_rs (s0 := [jI (x7 + x8), jR r24, jI x8, jR r20]) (s1 := [jI (x7 + x8), jR (some a26), jI x8, jR r20]) (by rw [e27]) ?_
    obtain ⟨v28, e29, e⟩ := jbind e
    refine ey_iald (cd_134 rfl) e29 ?_
    obtain ⟨a30, e31, e⟩ := jbind e
    refine ey_rs (s0 := [jI v28, jI x8, jR r20]) (s1 := [jI v28, jI x8, jR (some a30)]) (by rw [e31]) ?_
    obtain ⟨h32, e33, e⟩ := jbind e
    refine ey_iast (cd_134 rfl) e33 ?_
    refine ey_iinc (cd_134 rfl) mt_134 rfl f8 ?_
    refine ey_goto (cd_134 rfl) rfl ?_
    cases e
    exact K (jup lv 8 (jI (x8 + 1))) f0 f1 f2 f4 f5 f6 (jup_pi (lv := lv) (j := 7) (v := jI (x8 + 1)) (z := x7) f7) rfl
theorem jk_134_l31 {L : Nat} {xs : Nat → Int32} {this : Nat} {x1 : Option Nat} {x2 : Option Nat} {x4 : Int} {x5 : Int} {x6 : Int} {x7 : Int} {x8 : Int} {h : jH} {x : jH} {r : mm_R} (e : jd_134_l31 this x1 x2 x4 x5 x6 x7 x8 h = some x) (K : (∀ lv : jL, lv 0 = some (jR (some this)) → lv 1 = some (jR x1) → lv 4 = some (jI x4) → lv 5 = some (jI x5) → lv 6 = some (jI x6) → ey (mm_xt L xs) 2 134 61 lv [] x r)) : ∀ lv : jL, lv 0 = some (jR (some this)) → lv 1 = some (jR x1) → lv 2 = some (jR x2) → lv 4 = some (jI x4) → lv 5 = some (jI x5) → lv 6 = some (jI x6) → lv 7 = some (jI x7) → lv 8 = some (jI x8) → ey (mm_xt L xs) 2 134 31 lv [] h r := by
  unfold jd_134_l31 at e
  exact jlp_ok2 (P := fun s => ∀ lv : jL, lv 0 = some (jR (some this)) → lv 1 = some (jR x1) → lv 2 = some (jR x2) → lv 4 = some (jI x4) → lv 5 = some (jI x5) → lv 6 = some (jI x6) → lv 7 = some (jI x7) → lv 8 = some (jI s.1) → ey (mm_xt L xs) 2 134 31 lv [] s.2 r) (Q := fun x => (∀ lv : jL, lv 0 = some (jR (some this)) → lv 1 = some (jR x1) → lv 4 = some (jI x4) → lv 5 = some (jI x5) → lv 6 = some (jI x6) → ey (mm_xt L xs) 2 134 61 lv [] x r)) (fun s q hq hk => jk_134_s31 hq hk) jfu _ x e K
set_option maxRecDepth 100000 in
theorem jk_134_b137 {L : Nat} {xs : Nat → Int32} {this : Nat} {x1 : Option Nat} {x6 : Int} {x8 : Int} {x9 : Int} {h : jH} {o : ((Int × Int × jH) ⊕ (Int × jH))} {r : mm_R} (e : jd_134_b137 this x1 x6 x8 x9 h = some o) (K : jsm (fun s => (∀ lv : jL, lv 0 = some (jR (some this)) → lv 1 = some (jR x1) → lv 6 = some (jI x6) → lv 8 = some (jI s.1) → lv 9 = some (jI s.2.1) → ey (mm_xt L xs) 2 134 91 lv [] s.2.2 r)) (fun x => (∀ lv : jL, lv 1 = some (jR x1) → lv 8 = some (jI x.1) → ey (mm_xt L xs) 2 134 143 lv [] x.2 r)) o) : ∀ lv : jL, lv 0 = some (jR (some this)) → lv 1 = some (jR x1) → lv 6 = some (jI x6) → lv 8 = some (jI x8) → lv 9 = some (jI x9) → ey (mm_xt L xs) 2 134 137 lv [] h r := by
  intro lv f0 f1 f6 f8 f9
  unfold jd_134_b137 at e
  refine ey_iinc (cd_134 rfl) mt_134 rfl f9 ?_
  refine ey_goto (cd_134 rfl) rfl ?_
  cases e
  exact K (jup lv 9 (jI (x9 + 1))) f0 f1 f6 (jup_pi (lv := lv) (j := 8) (v := jI (x9 + 1)) (z := x8) f8) rfl
set_option maxRecDepth 100000 in
theorem jk_134_s91 {L : Nat} {xs : Nat → Int32} {this : Nat} {x1 : Option Nat} {x6 : Int} {x8 : Int} {x9 : Int} {h : jH} {o : ((Int × Int × jH) ⊕ (Int × jH))} {r : mm_R} (e : jd_134_s91 this x1 x6 x8 x9 h = some o) (K : jsm (fun s => (∀ lv : jL, lv 0 = some (jR (some this)) → lv 1 = some (jR x1) → lv 6 = some (jI x6) → lv 8 = some (jI s.1) → lv 9 = some (jI s.2.1) → ey (mm_xt L xs) 2 134 91 lv [] s.2.2 r)) (fun x => (∀ lv : jL, lv 1 = some (jR x1) → lv 8 = some (jI x.1) → ey (mm_xt L xs) 2 134 143 lv [] x.2 r)) o) : ∀ lv : jL, lv 0 = some (jR (some this)) → lv 1 = some (jR x1) → lv 6 = some (jI x6) → lv 8 = some (jI x8) → lv 9 = some (jI x9) → ey (mm_xt L xs) 2 134 91 lv [] h r := by
  intro lv f0 f1 f6 f8 f9
  unfold jd_134_s91 at e
  refine ey_iload (cd_134 rfl) f9 ?_
  refine ey_iload (cd_134 rfl) f6 ?_
  by_cases q44 : (jw x6) ≤ (jw x9)
  · rw [if_pos q44] at e
    refine ey_cge (cd_134 rfl) rfl rfl rfl q44 ?_
    cases e
    exact K lv f1 f8
  · rw [if_neg q44] at e
    refine ey_nge (cd_134 rfl) rfl rfl rfl q44 ?_
    refine ey_aload_n (cd_134 rfl) f0 ?_
    obtain ⟨r45, e46, e⟩ := jbind e
    refine ey_getf_r (cd_134 rfl) mt_134 rfl rfl rfl e46 ?_
    refine ey_iload (cd_134 rfl) f9 ?_
    obtain ⟨a47, e48, e⟩ := jbind e
    refine ey_rs (s0 := [jI x9, jR r45]) (s1 := [jI x9, jR (some a47)]) (by rw [e48]) ?_
    obtain ⟨v49, e50, e⟩ := jbind e
    refine ey_iald (cd_134 rfl) e50 ?_
    by_cases q51 : (jw v49) = 0
    · rw [if_pos q51] at e
      refine ey_yne (cd_134 rfl) rfl rfl (fun w => w q51) ?_
      refine ey_iinc (cd_134 rfl) mt_134 rfl f8 ?_
      refine ey_goto (cd_134 rfl) rfl ?_
      exact jk_134_b137 e K (jup lv 8 (jI (x8 + 1))) f0 f1 f6 rfl f9
    · rw [if_neg q51] at e
      refine ey_zne (cd_134 rfl) rfl rfl q51 ?_
      refine ey_aload_n (cd_134 rfl) f1 ?_
      refine ey_iload (cd_134 rfl) f8 ?_
      obtain ⟨a52, e53, e⟩ := jbind e
      refine ey_rs (s0 := [jI x8, jR x1]) (s1 := [jI x8, jR (some a52)]) (by rw [e53]) ?_
      obtain ⟨u54, e55, e⟩ := jbind e
      obtain ⟨h56, e57, e⟩ := jbind e
      refine ey_cv (s0 := [jI x8, jR (some a52)]) (s1 := []) (st' := []) (cd_134 rfl) mt_134 mt_9 rfl rfl rfl (jck_s e55) rfl (jsml_s rfl) rfl (ok_9 e57) ?_
      refine ey_aload_n (cd_134 rfl) f1 ?_
      refine ey_aload_n (cd_134 rfl) f0 ?_
      obtain ⟨r58, e59, e⟩ := jbind e
      refine ey_getf_r (cd_134 rfl) mt_134 rfl rfl rfl e59 ?_
      refine ey_iload (cd_134 rfl) f9 ?_
      obtain ⟨a60, e61, e⟩ := jbind e
      refine ey_rs (s0 := [jI x9, jR r58, jR x1]) (s1 := [jI x9, jR (some a60), jR x1]) (by rw [e61]) ?_
      obtain ⟨v62, e63, e⟩ := jbind e
      refine ey_iald (cd_134 rfl) e63 ?_
      refine ey_cs (s0 := [jI v62, jR x1]) (s1 := [jR x1]) (st' := [jI (jd_12 v62), jR x1]) (cd_134 rfl) mt_134 mt_12 rfl (by decide) rfl rfl (jsml_s rfl) rfl (mm_Runs.up (d := 1) (by decide) (ok_12 )) ?_
      obtain ⟨a64, e65, e⟩ := jbind e
      refine ey_rs (s0 := [jI (jd_12 v62), jR x1]) (s1 := [jI (jd_12 v62), jR (some a64)]) (by rw [e65]) ?_
      obtain ⟨u66, e67, e⟩ := jbind e
      obtain ⟨h68, e69, e⟩ := jbind e
      refine ey_cv (s0 := [jI (jd_12 v62), jR (some a64)]) (s1 := []) (st' := []) (cd_134 rfl) mt_134 mt_9 rfl rfl rfl (jck_s e67) rfl (jsml_s rfl) rfl (ok_9 e69) ?_
      refine ey_iconst (cd_134 rfl) ?_
      refine ey_istore (cd_134 rfl) mt_134 rfl ?_
      exact jk_134_b137 e K (jup lv 8 (jI 0)) f0 f1 f6 rfl f9
theorem jk_134_l91 {L : Nat} {xs : Nat → Int32} {this : Nat} {x1 : Option Nat} {x6 : Int} {x8 : Int} {x9 : Int} {h : jH} {x : (Int × jH)} {r : mm_R} (e : jd_134_l91 this x1 x6 x8 x9 h = some x) (K : (∀ lv : jL, lv 1 = some (jR x1) → lv 8 = some (jI x.1) → ey (mm_xt L xs) 2 134 143 lv [] x.2 r)) : ∀ lv : jL, lv 0 = some (jR (some this)) → lv 1 = some (jR x1) → lv 6 = some (jI x6) → lv 8 = some (jI x8) → lv 9 = some (jI x9) → ey (mm_xt L xs) 2 134 91 lv [] h r := by
  unfold jd_134_l91 at e
  exact jlp_ok2 (P := fun s => ∀ lv : jL, lv 0 = some (jR (some this)) → lv 1 = some (jR x1) → lv 6 = some (jI x6) → lv 8 = some (jI s.1) → lv 9 = some (jI s.2.1) → ey (mm_xt L xs) 2 134 91 lv [] s.2.2 r) (Q := fun x => (∀ lv : jL, lv 1 = some (jR x1) → lv 8 = some (jI x.1) → ey (mm_xt L xs) 2 134 143 lv [] x.2 r)) (fun s q hq hk => jk_134_s91 hq hk) jfu _ x e K
set_option maxRecDepth 100000 in
theorem jk_134_b154 {L : Nat} {xs : Nat → Int32} {this : Nat}  {h : jH} {o : jH} (e : jd_134_b154 this  h = some o) : ∀ lv : jL, ey (mm_xt L xs) 2 134 154 lv [] h (.inl (none, jaH o)) := by
  intro lv 
  unfold jd_134_b154 at e
  cases e
  exact ey_retv (cd_134 rfl) mt_134 rfl
set_option maxRecDepth 100000 in
theorem ok_134 {L : Nat} {xs : Nat → Int32} {this : Nat} {p0 : Option Nat} {p1 : Option Nat} {p2 : Int} {h : jH} {o : jH} (e : jd_134 this p0 p1 p2 h = some o) : mm_Runs (mm_xt L xs) 3 134 ([jR (some this), jR p0, jR p1, jI p2].map jcv) (jaH h) (.inl (none, jaH o)) := by
  refine ey_run0 _ mt_134 (jsl_s rfl) ?_
  unfold jd_134 at e
  refine ey_aload_n (cd_134 rfl) rfl ?_
  refine ey_iload_n (cd_134 rfl) rfl ?_
  obtain ⟨a1, e2, e⟩ := jbind e
  refine ey_rs (s0 := [jI p2, jR p1]) (s1 := [jI p2, jR (some a1)]) (by rw [e2]) ?_
  obtain ⟨u3, e4, e⟩ := jbind e
  obtain ⟨v5, e6, e⟩ := jbind e
  refine ey_cv (s0 := [jI p2, jR (some a1)]) (s1 := []) (st' := [jI v5]) (cd_134 rfl) mt_134 mt_96 rfl rfl rfl (jck_s e4) rfl (jsml_s rfl) rfl (mm_Runs.up (d := 1) (by decide) (ok_96 e6)) ?_
  refine ey_istore (cd_134 rfl) mt_134 rfl ?_
  refine ey_aload_n (cd_134 rfl) rfl ?_
  refine ey_iload_n (cd_134 rfl) (jup_pi (lv := (jlf (jla 0 [jR (some this), jR p0, jR p1, jI p2]))) (j := 3) (v := jI v5) (z := p2) rfl) ?_
  obtain ⟨a7, e8, e⟩ := jbind e
  refine ey_rs (s0 := [jI p2, jR p1]) (s1 := [jI p2, jR (some a7)]) (by rw [e8]) ?_
  obtain ⟨u9, e10, e⟩ := jbind e
  obtain ⟨v11, e12, e⟩ := jbind e
  refine ey_cv (s0 := [jI p2, jR (some a7)]) (s1 := []) (st' := [jI v11]) (cd_134 rfl) mt_134 mt_97 rfl rfl rfl (jck_s e10) rfl (jsml_s rfl) rfl (mm_Runs.up (d := 1) (by decide) (ok_97 e12)) ?_
  refine ey_istore (cd_134 rfl) mt_134 rfl ?_
  refine ey_iload (cd_134 rfl) (jup_pi (lv := (jup (jlf (jla 0 [jR (some this), jR p0, jR p1, jI p2])) 4 (jI v5))) (j := 4) (v := jI v11) (z := v5) rfl) ?_
  refine ey_iload (cd_134 rfl) rfl ?_
  refine ey_imul (cd_134 rfl) ?_
  refine ey_istore (cd_134 rfl) mt_134 rfl ?_
  refine ey_aload_n (cd_134 rfl) rfl ?_
  refine ey_iload_n (cd_134 rfl) (jup_o rfl (jup_o rfl (jup_pi (lv := (jlf (jla 0 [jR (some this), jR p0, jR p1, jI p2]))) (j := 3) (v := jI v5) (z := p2) rfl))) ?_
  obtain ⟨a13, e14, e⟩ := jbind e
  refine ey_rs (s0 := [jI p2, jR p1]) (s1 := [jI p2, jR (some a13)]) (by rw [e14]) ?_
  obtain ⟨u15, e16, e⟩ := jbind e
  obtain ⟨v17, e18, e⟩ := jbind e
  refine ey_cv (s0 := [jI p2, jR (some a13)]) (s1 := []) (st' := [jI v17]) (cd_134 rfl) mt_134 mt_98 rfl rfl rfl (jck_s e16) rfl (jsml_s rfl) rfl (mm_Runs.up (d := 1) (by decide) (ok_98 e18)) ?_
  refine ey_istore (cd_134 rfl) mt_134 rfl ?_
  refine ey_iconst (cd_134 rfl) ?_
  refine ey_istore (cd_134 rfl) mt_134 rfl ?_
  obtain ⟨x34, e35, e⟩ := jbind e
  refine jk_134_l31 e35 ?_ (jup (jup (jup (jup (jup (jlf (jla 0 [jR (some this), jR p0, jR p1, jI p2])) 4 (jI v5)) 5 (jI v11)) 6 (jI (v5 * v11))) 7 (jI v17)) 8 (jI 0)) rfl rfl rfl (jup_o rfl (jup_o rfl (jup_o rfl (jup_pi (lv := (jup (jlf (jla 0 [jR (some this), jR p0, jR p1, jI p2])) 4 (jI v5))) (j := 4) (v := jI v11) (z := v5) rfl)))) (jup_o rfl (jup_o rfl (jup_pi (lv := (jup (jup (jlf (jla 0 [jR (some this), jR p0, jR p1, jI p2])) 4 (jI v5)) 5 (jI v11))) (j := 5) (v := jI (v5 * v11)) (z := v11) rfl))) (jup_o rfl (jup_pi (lv := (jup (jup (jup (jlf (jla 0 [jR (some this), jR p0, jR p1, jI p2])) 4 (jI v5)) 5 (jI v11)) 6 (jI (v5 * v11)))) (j := 6) (v := jI v17) (z := (v5 * v11)) rfl)) (jup_pi (lv := (jup (jup (jup (jup (jlf (jla 0 [jR (some this), jR p0, jR p1, jI p2])) 4 (jI v5)) 5 (jI v11)) 6 (jI (v5 * v11))) 7 (jI v17))) (j := 7) (v := jI 0) (z := v17) rfl) rfl
  intro lv g0 g1 g4 g5 g6
  refine ey_aload_n (cd_134 rfl) g0 ?_
  refine ey_iload (cd_134 rfl) g4 ?_
  refine ey_iload (cd_134 rfl) g4 ?_
  refine ey_iload (cd_134 rfl) g5 ?_
  obtain ⟨u36, e37, e⟩ := jbind e
  obtain ⟨h38, e39, e⟩ := jbind e
  refine ey_cv (s0 := [jI v11, jI v5, jI v5, jR (some this)]) (s1 := []) (st' := []) (cd_134 rfl) mt_134 mt_135 rfl rfl rfl (jck_s e37) rfl (jsml_s rfl) rfl (ok_135 e39) ?_
  refine ey_aload_n (cd_134 rfl) g0 ?_
  refine ey_iload (cd_134 rfl) g4 ?_
  refine ey_iload (cd_134 rfl) g4 ?_
  refine ey_iconst (cd_134 rfl) ?_
  refine ey_idiv (cd_134 rfl) (by decide) ?_
  refine ey_iload (cd_134 rfl) g5 ?_
  refine ey_iconst (cd_134 rfl) ?_
  refine ey_idiv (cd_134 rfl) (by decide) ?_
  obtain ⟨u40, e41, e⟩ := jbind e
  obtain ⟨h42, e43, e⟩ := jbind e
  refine ey_cv (s0 := [jI (jdiv v11 2), jI (jdiv v5 2), jI v5, jR (some this)]) (s1 := []) (st' := []) (cd_134 rfl) mt_134 mt_135 rfl rfl rfl (jck_s e41) rfl (jsml_s rfl) rfl (ok_135 e43) ?_
  refine ey_iconst (cd_134 rfl) ?_
  refine ey_istore (cd_134 rfl) mt_134 rfl ?_
  refine ey_iconst (cd_134 rfl) ?_
  refine ey_istore (cd_134 rfl) mt_134 rfl ?_
  obtain ⟨x70, e71, e⟩ := jbind e
  refine jk_134_l91 e71 ?_ (jup (jup lv 8 (jI 0)) 9 (jI 0)) g0 g1 g6 (jup_pi (lv := (jup lv 8 (jI 0))) (j := 8) (v := jI 0) (z := 0) rfl) rfl
  intro lv g1 g8
  refine ey_iload (cd_134 rfl) g8 ?_
  by_cases q72 : (jw x70.1) ≤ 0
  · rw [if_pos q72] at e
    refine ey_zle (cd_134 rfl) rfl rfl q72 ?_
    exact jk_134_b154 e lv 
  · rw [if_neg q72] at e
    refine ey_yle (cd_134 rfl) rfl rfl q72 ?_
    refine ey_aload_n (cd_134 rfl) g1 ?_
    refine ey_iload (cd_134 rfl) g8 ?_
    obtain ⟨a73, e74, e⟩ := jbind e
    refine ey_rs (s0 := [jI x70.1, jR p0]) (s1 := [jI x70.1, jR (some a73)]) (by rw [e74]) ?_
    obtain ⟨u75, e76, e⟩ := jbind e
    obtain ⟨h77, e78, e⟩ := jbind e
    refine ey_cv (s0 := [jI x70.1, jR (some a73)]) (s1 := []) (st' := []) (cd_134 rfl) mt_134 mt_9 rfl rfl rfl (jck_s e76) rfl (jsml_s rfl) rfl (ok_9 e78) ?_
    exact jk_134_b154 e lv 
theorem cd_67 {pc : Nat} {i : Instr × Nat} (h : mm_lk mm_c67 pc = some i) : mm_cd 67 pc = some i := h
theorem mt_67 : mm_MT 67 = (4, 6, some .boolean, 2, 0, []) := rfl
set_option maxRecDepth 100000 in
theorem jk_67_b102 {L : Nat} {xs : Nat → Int32} {this : Nat} {x1 : Option Nat} {x2 : Int} {x3 : Int} {x4 : Option Nat} {x5 : Int} {h : jH} {o : ((Int × jH) ⊕ jH)} {r : mm_R} (e : jd_67_b102 this x1 x2 x3 x4 x5 h = some o) (K : jsm (fun s => (∀ lv : jL, lv 0 = some (jR (some this)) → lv 1 = some (jR x1) → lv 2 = some (jI x2) → lv 3 = some (jI x3) → lv 4 = some (jR x4) → lv 5 = some (jI s.1) → ey (mm_xt L xs) 4 67 48 lv [] s.2 r)) (fun x => (∀ lv : jL, lv 0 = some (jR (some this)) → lv 1 = some (jR x1) → lv 2 = some (jI x2) → lv 3 = some (jI x3) → ey (mm_xt L xs) 4 67 108 lv [] x r)) o) : ∀ lv : jL, lv 0 = some (jR (some this)) → lv 1 = some (jR x1) → lv 2 = some (jI x2) → lv 3 = some (jI x3) → lv 4 = some (jR x4) → lv 5 = some (jI x5) → ey (mm_xt L xs) 4 67 102 lv [] h r := by
  intro lv f0 f1 f2 f3 f4 f5
  unfold jd_67_b102 at e
  refine ey_iinc (cd_67 rfl) mt_67 rfl f5 ?_
  refine ey_goto (cd_67 rfl) rfl ?_
  cases e
  exact K (jup lv 5 (jI (x5 + 1))) f0 f1 f2 f3 (jup_pr (lv := lv) (j := 4) (v := jI (x5 + 1)) (z := x4) f4) rfl
set_option maxRecDepth 100000 in
theorem jk_67_s48 {L : Nat} {xs : Nat → Int32} {this : Nat} {x1 : Option Nat} {x2 : Int} {x3 : Int} {x4 : Option Nat} {x5 : Int} {h : jH} {o : ((Int × jH) ⊕ jH)} {r : mm_R} (e : jd_67_s48 this x1 x2 x3 x4 x5 h = some o) (K : jsm (fun s => (∀ lv : jL, lv 0 = some (jR (some this)) → lv 1 = some (jR x1) → lv 2 = some (jI x2) → lv 3 = some (jI x3) → lv 4 = some (jR x4) → lv 5 = some (jI s.1) → ey (mm_xt L xs) 4 67 48 lv [] s.2 r)) (fun x => (∀ lv : jL, lv 0 = some (jR (some this)) → lv 1 = some (jR x1) → lv 2 = some (jI x2) → lv 3 = some (jI x3) → ey (mm_xt L xs) 4 67 108 lv [] x r)) o) : ∀ lv : jL, lv 0 = some (jR (some this)) → lv 1 = some (jR x1) → lv 2 = some (jI x2) → lv 3 = some (jI x3) → lv 4 = some (jR x4) → lv 5 = some (jI x5) → ey (mm_xt L xs) 4 67 48 lv [] h r := by
  intro lv f0 f1 f2 f3 f4 f5
  unfold jd_67_s48 at e
  refine ey_iload (cd_67 rfl) f5 ?_
  refine ey_iconst (cd_67 rfl) ?_
  by_cases q22 : 3 ≤ (jw x5)
  · rw [if_pos q22] at e
    refine ey_cge (cd_67 rfl) rfl rfl (show jw 3 = 3 from by decide) q22 ?_
    cases e
    exact K lv f0 f1 f2 f3
  · rw [if_neg q22] at e
    refine ey_nge (cd_67 rfl) rfl rfl (show jw 3 = 3 from by decide) q22 ?_
    refine ey_iload_n (cd_67 rfl) f2 ?_
    refine ey_iconst (cd_67 rfl) ?_
    by_cases q23 : (jw x2) = 1
    · rw [if_pos q23] at e
      refine ey_nne (cd_67 rfl) rfl rfl (show jw 1 = 1 from by decide) (fun w => w q23) ?_
      refine ey_aload_n (cd_67 rfl) f0 ?_
      obtain ⟨r24, e25, e⟩ := jbind e
      refine ey_getf_r (cd_67 rfl) mt_67 rfl rfl rfl e25 ?_
      refine ey_aload_n (cd_67 rfl) f0 ?_
      obtain ⟨r26, e27, e⟩ := jbind e
      refine ey_getf_r (cd_67 rfl) mt_67 rfl rfl rfl e27 ?_
      refine ey_aload_n (cd_67 rfl) f0 ?_
      obtain ⟨r28, e29, e⟩ := jbind e
      refine ey_getf_r (cd_67 rfl) mt_67 rfl rfl rfl e29 ?_
      refine ey_iload_n (cd_67 rfl) f3 ?_
      obtain ⟨a30, e31, e⟩ := jbind e
      refine ey_rs (s0 := [jI x3, jR r28, jR r26, jR r24]) (s1 := [jI x3, jR (some a30), jR r26, jR r24]) (by rw [e31]) ?_
      obtain ⟨r32, e33, e⟩ := jbind e
      refine ey_aald (cd_67 rfl) (by decide) e33 ?_
      refine ey_iload (cd_67 rfl) f5 ?_
      obtain ⟨a34, e35, e⟩ := jbind e
      refine ey_rs (s0 := [jI x5, jR r32, jR r26, jR r24]) (s1 := [jI x5, jR r32, jR r26, jR (some a34)]) (by rw [e35]) ?_
      obtain ⟨u36, e37, e⟩ := jbind e
      obtain ⟨h38, e39, e⟩ := jbind e
      refine ey_cv (s0 := [jI x5, jR r32, jR r26, jR (some a34)]) (s1 := []) (st' := []) (cd_67 rfl) mt_67 mt_134 rfl rfl rfl (jck_s e37) rfl (jsml_s rfl) rfl (mm_Runs.up (d := 3) (by decide) (ok_134 e39)) ?_
      refine ey_goto (cd_67 rfl) rfl ?_
      exact jk_67_b102 e K lv f0 f1 f2 f3 f4 f5
    · rw [if_neg q23] at e
      refine ey_cne (cd_67 rfl) rfl rfl (show jw 1 = 1 from by decide) q23 ?_
      refine ey_aload_n (cd_67 rfl) f0 ?_
      obtain ⟨r40, e41, e⟩ := jbind e
      refine ey_getf_r (cd_67 rfl) mt_67 rfl rfl rfl e41 ?_
      refine ey_aload_n (cd_67 rfl) f0 ?_
      obtain ⟨r42, e43, e⟩ := jbind e
      refine ey_getf_r (cd_67 rfl) mt_67 rfl rfl rfl e43 ?_
      refine ey_aload_n (cd_67 rfl) f0 ?_
      obtain ⟨r44, e45, e⟩ := jbind e
      refine ey_getf_r (cd_67 rfl) mt_67 rfl rfl rfl e45 ?_
      refine ey_iload_n (cd_67 rfl) f3 ?_
      obtain ⟨a46, e47, e⟩ := jbind e
      refine ey_rs (s0 := [jI x3, jR r44, jR r42, jR r40]) (s1 := [jI x3, jR (some a46), jR r42, jR r40]) (by rw [e47]) ?_
      obtain ⟨r48, e49, e⟩ := jbind e
      refine ey_aald (cd_67 rfl) (by decide) e49 ?_
      refine ey_iload (cd_67 rfl) f5 ?_
      refine ey_aload (cd_67 rfl) f4 ?_
      obtain ⟨a50, e51, e⟩ := jbind e
      refine ey_rs (s0 := [jR x4, jI x5, jR r48, jR r42, jR r40]) (s1 := [jR x4, jI x5, jR r48, jR r42, jR (some a50)]) (by rw [e51]) ?_
      obtain ⟨u52, e53, e⟩ := jbind e
      obtain ⟨h54, e55, e⟩ := jbind e
      refine ey_cv (s0 := [jR x4, jI x5, jR r48, jR r42, jR (some a50)]) (s1 := []) (st' := []) (cd_67 rfl) mt_67 mt_126 rfl rfl rfl (jck_s e53) rfl (jsml_s rfl) rfl (ok_126 e55) ?_
      exact jk_67_b102 e K lv f0 f1 f2 f3 f4 f5
theorem jk_67_l48 {L : Nat} {xs : Nat → Int32} {this : Nat} {x1 : Option Nat} {x2 : Int} {x3 : Int} {x4 : Option Nat} {x5 : Int} {h : jH} {x : jH} {r : mm_R} (e : jd_67_l48 this x1 x2 x3 x4 x5 h = some x) (K : (∀ lv : jL, lv 0 = some (jR (some this)) → lv 1 = some (jR x1) → lv 2 = some (jI x2) → lv 3 = some (jI x3) → ey (mm_xt L xs) 4 67 108 lv [] x r)) : ∀ lv : jL, lv 0 = some (jR (some this)) → lv 1 = some (jR x1) → lv 2 = some (jI x2) → lv 3 = some (jI x3) → lv 4 = some (jR x4) → lv 5 = some (jI x5) → ey (mm_xt L xs) 4 67 48 lv [] h r := by
  unfold jd_67_l48 at e
  exact jlp_ok2 (P := fun s => ∀ lv : jL, lv 0 = some (jR (some this)) → lv 1 = some (jR x1) → lv 2 = some (jI x2) → lv 3 = some (jI x3) → lv 4 = some (jR x4) → lv 5 = some (jI s.1) → ey (mm_xt L xs) 4 67 48 lv [] s.2 r) (Q := fun x => (∀ lv : jL, lv 0 = some (jR (some this)) → lv 1 = some (jR x1) → lv 2 = some (jI x2) → lv 3 = some (jI x3) → ey (mm_xt L xs) 4 67 108 lv [] x r)) (fun s q hq hk => jk_67_s48 hq hk) jfu _ x e K
set_option maxRecDepth 100000 in
theorem jk_67_b43 {L : Nat} {xs : Nat → Int32} {this : Nat} {x1 : Option Nat} {x2 : Int} {x3 : Int} {y0 : Option Nat} {h : jH} {o : ((Int × jH) ⊕ (jH ⊕ jH))} {r : mm_R} (e : jd_67_b43 this x1 x2 x3 y0 h = some o) (K : jsm (fun s => (∀ lv : jL, lv 0 = some (jR (some this)) → lv 1 = some (jR x1) → lv 2 = some (jI x2) → lv 3 = some (jI s.1) → ey (mm_xt L xs) 4 67 2 lv [] s.2 r)) (fun x => (jsm (fun y => (∀ lv : jL, ey (mm_xt L xs) 4 67 121 lv [] y r)) (fun z => (∀ lv : jL, ey (mm_xt L xs) 4 67 150 lv [] z r)) x)) o) : ∀ lv : jL, lv 0 = some (jR (some this)) → lv 1 = some (jR x1) → lv 2 = some (jI x2) → lv 3 = some (jI x3) → ey (mm_xt L xs) 4 67 43 lv [jR y0] h r := by
  intro lv f0 f1 f2 f3
  unfold jd_67_b43 at e
  refine ey_astore (cd_67 rfl) mt_67 rfl ?_
  refine ey_iconst (cd_67 rfl) ?_
  refine ey_istore (cd_67 rfl) mt_67 rfl ?_
  obtain ⟨x56, e57, e⟩ := jbind e
  refine jk_67_l48 e57 ?_ (jup (jup lv 4 (jR y0)) 5 (jI 0)) f0 f1 f2 (jup_o rfl (jup_pi (lv := lv) (j := 3) (v := jR y0) (z := x3) f3)) (jup_pr (lv := (jup lv 4 (jR y0))) (j := 4) (v := jI 0) (z := y0) rfl) rfl
  intro lv g0 g1 g2 g3
  refine ey_aload_n (cd_67 rfl) g0 ?_
  obtain ⟨r58, e59, e⟩ := jbind e
  refine ey_getf_r (cd_67 rfl) mt_67 rfl rfl rfl e59 ?_
  obtain ⟨a60, e61, e⟩ := jbind e
  refine ey_rs (s0 := [jR r58]) (s1 := [jR (some a60)]) (by rw [e61]) ?_
  obtain ⟨u62, e63, e⟩ := jbind e
  obtain ⟨v64, e65, e⟩ := jbind e
  refine ey_cv (s0 := [jR (some a60)]) (s1 := []) (st' := [jI v64]) (cd_67 rfl) mt_67 mt_10 rfl rfl rfl (jck_s e63) rfl (jsml_s rfl) rfl (mm_Runs.up (d := 1) (by decide) (ok_10 e65)) ?_
  refine ey_sipush (cd_67 rfl) (by decide) ?_
  by_cases q66 : (jw v64) ≤ 2000
  · rw [if_pos q66] at e
    refine ey_cle (cd_67 rfl) rfl rfl (show jw 2000 = 2000 from by decide) q66 ?_
    refine ey_aload_n (cd_67 rfl) g1 ?_
    refine ey_iload_n (cd_67 rfl) g3 ?_
    refine ey_iconst (cd_67 rfl) ?_
    refine ey_aload_n (cd_67 rfl) g0 ?_
    obtain ⟨r67, e68, e⟩ := jbind e
    refine ey_getf_r (cd_67 rfl) mt_67 rfl rfl rfl e68 ?_
    obtain ⟨a69, e70, e⟩ := jbind e
    refine ey_rs (s0 := [jR r67, jI 0, jI x3, jR x1]) (s1 := [jR (some a69), jI 0, jI x3, jR x1]) (by rw [e70]) ?_
    obtain ⟨r71, e72, e⟩ := jbind e
    refine ey_getf_r (cd_67 rfl) mt_67 rfl rfl rfl e72 ?_
    refine ey_iconst (cd_67 rfl) ?_
    refine ey_aload_n (cd_67 rfl) g0 ?_
    obtain ⟨r73, e74, e⟩ := jbind e
    refine ey_getf_r (cd_67 rfl) mt_67 rfl rfl rfl e74 ?_
    obtain ⟨a75, e76, e⟩ := jbind e
    refine ey_rs (s0 := [jR r73, jI 0, jR r71, jI 0, jI x3, jR x1]) (s1 := [jR (some a75), jI 0, jR r71, jI 0, jI x3, jR x1]) (by rw [e76]) ?_
    obtain ⟨u77, e78, e⟩ := jbind e
    obtain ⟨v79, e80, e⟩ := jbind e
    refine ey_cv (s0 := [jR (some a75), jI 0, jR r71, jI 0, jI x3, jR x1]) (s1 := [jI 0, jR r71, jI 0, jI x3, jR x1]) (st' := [jI v79, jI 0, jR r71, jI 0, jI x3, jR x1]) (cd_67 rfl) mt_67 mt_10 rfl rfl rfl (jck_s e78) rfl (jsml_s rfl) rfl (mm_Runs.up (d := 1) (by decide) (ok_10 e80)) ?_
    obtain ⟨a81, e82, e⟩ := jbind e
    refine ey_rs (s0 := [jI v79, jI 0, jR r71, jI 0, jI x3, jR x1]) (s1 := [jI v79, jI 0, jR r71, jI 0, jI x3, jR (some a81)]) (by rw [e82]) ?_
    obtain ⟨u83, e84, e⟩ := jbind e
    obtain ⟨h85, e86, e⟩ := jbind e
    refine ey_cv (s0 := [jI v79, jI 0, jR r71, jI 0, jI x3, jR (some a81)]) (s1 := []) (st' := []) (cd_67 rfl) mt_67 mt_27 rfl rfl rfl (jck_s e84) rfl (jsml_s rfl) rfl (mm_Runs.up (d := 3) (by decide) (ok_27 e86)) ?_
    refine ey_iinc (cd_67 rfl) mt_67 rfl g3 ?_
    refine ey_goto (cd_67 rfl) rfl ?_
    cases e
    exact K (jup lv 3 (jI (x3 + 1))) g0 g1 (jup_pi (lv := lv) (j := 2) (v := jI (x3 + 1)) (z := x2) g2) rfl
  · rw [if_neg q66] at e
    refine ey_nle (cd_67 rfl) rfl rfl (show jw 2000 = 2000 from by decide) q66 ?_
    cases e
    exact K lv 
set_option maxRecDepth 100000 in
theorem jk_67_b42 {L : Nat} {xs : Nat → Int32} {this : Nat} {x1 : Option Nat} {x2 : Int} {x3 : Int} {h : jH} {o : ((Int × jH) ⊕ (jH ⊕ jH))} {r : mm_R} (e : jd_67_b42 this x1 x2 x3 h = some o) (K : jsm (fun s => (∀ lv : jL, lv 0 = some (jR (some this)) → lv 1 = some (jR x1) → lv 2 = some (jI x2) → lv 3 = some (jI s.1) → ey (mm_xt L xs) 4 67 2 lv [] s.2 r)) (fun x => (jsm (fun y => (∀ lv : jL, ey (mm_xt L xs) 4 67 121 lv [] y r)) (fun z => (∀ lv : jL, ey (mm_xt L xs) 4 67 150 lv [] z r)) x)) o) : ∀ lv : jL, lv 0 = some (jR (some this)) → lv 1 = some (jR x1) → lv 2 = some (jI x2) → lv 3 = some (jI x3) → ey (mm_xt L xs) 4 67 42 lv [] h r := by
  intro lv f0 f1 f2 f3
  unfold jd_67_b42 at e
  refine ey_null (cd_67 rfl) ?_
  exact jk_67_b43 e K lv f0 f1 f2 f3
set_option maxRecDepth 100000 in
theorem jk_67_s2 {L : Nat} {xs : Nat → Int32} {this : Nat} {x1 : Option Nat} {x2 : Int} {x3 : Int} {h : jH} {o : ((Int × jH) ⊕ (jH ⊕ jH))} {r : mm_R} (e : jd_67_s2 this x1 x2 x3 h = some o) (K : jsm (fun s => (∀ lv : jL, lv 0 = some (jR (some this)) → lv 1 = some (jR x1) → lv 2 = some (jI x2) → lv 3 = some (jI s.1) → ey (mm_xt L xs) 4 67 2 lv [] s.2 r)) (fun x => (jsm (fun y => (∀ lv : jL, ey (mm_xt L xs) 4 67 121 lv [] y r)) (fun z => (∀ lv : jL, ey (mm_xt L xs) 4 67 150 lv [] z r)) x)) o) : ∀ lv : jL, lv 0 = some (jR (some this)) → lv 1 = some (jR x1) → lv 2 = some (jI x2) → lv 3 = some (jI x3) → ey (mm_xt L xs) 4 67 2 lv [] h r := by
  intro lv f0 f1 f2 f3
  unfold jd_67_s2 at e
  refine ey_iload_n (cd_67 rfl) f3 ?_
  refine ey_aload_n (cd_67 rfl) f0 ?_
  obtain ⟨v1, e2, e⟩ := jbind e
  refine ey_getf_i (cd_67 rfl) mt_67 rfl rfl rfl e2 ?_
  by_cases q3 : (jw v1) ≤ (jw x3)
  · rw [if_pos q3] at e
    refine ey_cge (cd_67 rfl) rfl rfl rfl q3 ?_
    cases e
    exact K lv 
  · rw [if_neg q3] at e
    refine ey_nge (cd_67 rfl) rfl rfl rfl q3 ?_
    refine ey_aload_n (cd_67 rfl) f0 ?_
    obtain ⟨r4, e5, e⟩ := jbind e
    refine ey_getf_r (cd_67 rfl) mt_67 rfl rfl rfl e5 ?_
    obtain ⟨a6, e7, e⟩ := jbind e
    refine ey_rs (s0 := [jR r4]) (s1 := [jR (some a6)]) (by rw [e7]) ?_
    obtain ⟨u8, e9, e⟩ := jbind e
    obtain ⟨h10, e11, e⟩ := jbind e
    refine ey_cv (s0 := [jR (some a6)]) (s1 := []) (st' := []) (cd_67 rfl) mt_67 mt_6 rfl rfl rfl (jck_s e9) rfl (jsml_s rfl) rfl (mm_Runs.up (d := 1) (by decide) (ok_6 e11)) ?_
    refine ey_aload_n (cd_67 rfl) f1 ?_
    obtain ⟨a12, e13, e⟩ := jbind e
    refine ey_rs (s0 := [jR x1]) (s1 := [jR (some a12)]) (by rw [e13]) ?_
    obtain ⟨r14, e15, e⟩ := jbind e
    refine ey_getf_r (cd_67 rfl) mt_67 rfl rfl rfl e15 ?_
    refine ey_iload_n (cd_67 rfl) f3 ?_
    obtain ⟨a16, e17, e⟩ := jbind e
    refine ey_rs (s0 := [jI x3, jR r14]) (s1 := [jI x3, jR (some a16)]) (by rw [e17]) ?_
    obtain ⟨v18, e19, e⟩ := jbind e
    refine ey_iald (cd_67 rfl) e19 ?_
    refine ey_iconst (cd_67 rfl) ?_
    by_cases q20 : (jw v18) = 1
    · rw [if_pos q20] at e
      refine ey_nne (cd_67 rfl) rfl rfl (show jw 1 = 1 from by decide) (fun w => w q20) ?_
      refine ey_iload_n (cd_67 rfl) f3 ?_
      by_cases q21 : (jw x3) ≤ 0
      · rw [if_pos q21] at e
        refine ey_zle (cd_67 rfl) rfl rfl q21 ?_
        exact jk_67_b42 e K lv f0 f1 f2 f3
      · rw [if_neg q21] at e
        refine ey_yle (cd_67 rfl) rfl rfl q21 ?_
        refine ey_aload_n (cd_67 rfl) f0 ?_
        obtain ⟨r87, e88, e⟩ := jbind e
        refine ey_getf_r (cd_67 rfl) mt_67 rfl rfl rfl e88 ?_
        refine ey_iload_n (cd_67 rfl) f3 ?_
        refine ey_iconst (cd_67 rfl) ?_
        refine ey_isub (cd_67 rfl) ?_
        obtain ⟨a89, e90, e⟩ := jbind e
        refine ey_rs (s0 := [jI (x3 - 1), jR r87]) (s1 := [jI (x3 - 1), jR (some a89)]) (by rw [e90]) ?_
        obtain ⟨r91, e92, e⟩ := jbind e
        refine ey_aald (cd_67 rfl) (by decide) e92 ?_
        refine ey_goto (cd_67 rfl) rfl ?_
        exact jk_67_b43 e K lv f0 f1 f2 f3
    · rw [if_neg q20] at e
      refine ey_cne (cd_67 rfl) rfl rfl (show jw 1 = 1 from by decide) q20 ?_
      exact jk_67_b42 e K lv f0 f1 f2 f3
theorem jk_67_l2 {L : Nat} {xs : Nat → Int32} {this : Nat} {x1 : Option Nat} {x2 : Int} {x3 : Int} {h : jH} {x : (jH ⊕ jH)} {r : mm_R} (e : jd_67_l2 this x1 x2 x3 h = some x) (K : (jsm (fun y => (∀ lv : jL, ey (mm_xt L xs) 4 67 121 lv [] y r)) (fun z => (∀ lv : jL, ey (mm_xt L xs) 4 67 150 lv [] z r)) x)) : ∀ lv : jL, lv 0 = some (jR (some this)) → lv 1 = some (jR x1) → lv 2 = some (jI x2) → lv 3 = some (jI x3) → ey (mm_xt L xs) 4 67 2 lv [] h r := by
  unfold jd_67_l2 at e
  exact jlp_ok2 (P := fun s => ∀ lv : jL, lv 0 = some (jR (some this)) → lv 1 = some (jR x1) → lv 2 = some (jI x2) → lv 3 = some (jI s.1) → ey (mm_xt L xs) 4 67 2 lv [] s.2 r) (Q := fun x => (jsm (fun y => (∀ lv : jL, ey (mm_xt L xs) 4 67 121 lv [] y r)) (fun z => (∀ lv : jL, ey (mm_xt L xs) 4 67 150 lv [] z r)) x)) (fun s q hq hk => jk_67_s2 hq hk) jfu _ x e K
set_option maxRecDepth 100000 in
theorem ok_67 {L : Nat} {xs : Nat → Int32} {this : Nat} {p0 : Option Nat} {p1 : Int} {h : jH} {o : (Int × jH)} (e : jd_67 this p0 p1 h = some o) : mm_Runs (mm_xt L xs) 5 67 ([jR (some this), jR p0, jI p1].map jcv) (jaH h) (.inl (some (jcv (jI o.1)), jaH o.2)) := by
  refine ey_run0 _ mt_67 (jsl_s rfl) ?_
  unfold jd_67 at e
  refine ey_iconst (cd_67 rfl) ?_
  refine ey_istore_n (cd_67 rfl) mt_67 rfl ?_
  obtain ⟨x93, e94, e⟩ := jbind e
  refine jk_67_l2 e94 ?_ (jup (jlf (jla 0 [jR (some this), jR p0, jI p1])) 3 (jI 0)) rfl rfl (jup_pi (lv := (jlf (jla 0 [jR (some this), jR p0, jI p1]))) (j := 2) (v := jI 0) (z := p1) rfl) rfl
  cases x93 with
  | inl y95 =>
    replace e : (some (0, y95) : Option (Int × jH)) = some o := e
    intro lv 
    refine ey_iconst (cd_67 rfl) ?_
    cases e
    exact ey_retz (cd_67 rfl) mt_67 rfl (Or.inl rfl)
  | inr y96 =>
    replace e : (some (1, y96) : Option (Int × jH)) = some o := e
    intro lv 
    refine ey_iconst (cd_67 rfl) ?_
    cases e
    exact ey_retz (cd_67 rfl) mt_67 rfl (Or.inr rfl)
theorem cd_65 {pc : Nat} {i : Instr × Nat} (h : mm_lk mm_c65 pc = some i) : mm_cd 65 pc = some i := h
theorem mt_65 : mm_MT 65 = (4, 6, some .boolean, 2, 0, []) := rfl
set_option maxRecDepth 100000 in
theorem jk_65_s73 {L : Nat} {xs : Nat → Int32} {this : Nat} {x1 : Option Nat} {x2 : Int} {x3 : Int} {x4 : Int} {x5 : Int} {h : jH} {o : ((Int × Int × jH) ⊕ jH)} {r : mm_R} (e : jd_65_s73 this x1 x2 x3 x4 x5 h = some o) (K : jsm (fun s => (∀ lv : jL, lv 0 = some (jR (some this)) → lv 1 = some (jR x1) → lv 2 = some (jI x2) → lv 3 = some (jI x3) → lv 4 = some (jI s.1) → lv 5 = some (jI s.2.1) → ey (mm_xt L xs) 6 65 73 lv [] s.2.2 r)) (fun x => (∀ lv : jL, lv 0 = some (jR (some this)) → lv 1 = some (jR x1) → lv 2 = some (jI x2) → ey (mm_xt L xs) 6 65 125 lv [] x r)) o) : ∀ lv : jL, lv 0 = some (jR (some this)) → lv 1 = some (jR x1) → lv 2 = some (jI x2) → lv 3 = some (jI x3) → lv 4 = some (jI x4) → lv 5 = some (jI x5) → ey (mm_xt L xs) 6 65 73 lv [] h r := by
  intro lv f0 f1 f2 f3 f4 f5
  unfold jd_65_s73 at e
  refine ey_iload (cd_65 rfl) f5 ?_
  refine ey_aload_n (cd_65 rfl) f0 ?_
  obtain ⟨v62, e63, e⟩ := jbind e
  refine ey_getf_i (cd_65 rfl) mt_65 rfl rfl rfl e63 ?_
  by_cases q64 : (jw v62) ≤ (jw x5)
  · rw [if_pos q64] at e
    refine ey_cge (cd_65 rfl) rfl rfl rfl q64 ?_
    cases e
    exact K lv f0 f1 f2
  · rw [if_neg q64] at e
    refine ey_nge (cd_65 rfl) rfl rfl rfl q64 ?_
    refine ey_iload (cd_65 rfl) f4 ?_
    refine ey_aload_n (cd_65 rfl) f0 ?_
    obtain ⟨v65, e66, e⟩ := jbind e
    refine ey_getf_i (cd_65 rfl) mt_65 rfl rfl rfl e66 ?_
    by_cases q67 : (jw v65) ≤ (jw x4)
    · rw [if_pos q67] at e
      refine ey_cge (cd_65 rfl) rfl rfl rfl q67 ?_
      cases e
      exact K lv f0 f1 f2
    · rw [if_neg q67] at e
      refine ey_nge (cd_65 rfl) rfl rfl rfl q67 ?_
      refine ey_aload_n (cd_65 rfl) f1 ?_
      refine ey_iload (cd_65 rfl) f4 ?_
      refine ey_iload (cd_65 rfl) f4 ?_
      refine ey_aload_n (cd_65 rfl) f0 ?_
      obtain ⟨r68, e69, e⟩ := jbind e
      refine ey_getf_r (cd_65 rfl) mt_65 rfl rfl rfl e69 ?_
      refine ey_iload (cd_65 rfl) f4 ?_
      obtain ⟨a70, e71, e⟩ := jbind e
      refine ey_rs (s0 := [jI x4, jR r68, jI x4, jI x4, jR x1]) (s1 := [jI x4, jR (some a70), jI x4, jI x4, jR x1]) (by rw [e71]) ?_
      obtain ⟨v72, e73, e⟩ := jbind e
      refine ey_iald (cd_65 rfl) e73 ?_
      refine ey_iload_n (cd_65 rfl) f3 ?_
      obtain ⟨h74, e75, e⟩ := jbind e
      refine ey_cs (s0 := [jI x3, jI v72, jI x4, jI x4, jR x1]) (s1 := []) (st' := []) (cd_65 rfl) mt_65 mt_64 rfl (by decide) rfl rfl (jsml_s rfl) rfl (mm_Runs.up (d := 1) (by decide) (ok_64 e75)) ?_
      refine ey_iload (cd_65 rfl) f4 ?_
      refine ey_aload_n (cd_65 rfl) f0 ?_
      obtain ⟨r76, e77, e⟩ := jbind e
      refine ey_getf_r (cd_65 rfl) mt_65 rfl rfl rfl e77 ?_
      refine ey_iload (cd_65 rfl) f4 ?_
      obtain ⟨a78, e79, e⟩ := jbind e
      refine ey_rs (s0 := [jI x4, jR r76, jI x4]) (s1 := [jI x4, jR (some a78), jI x4]) (by rw [e79]) ?_
      obtain ⟨v80, e81, e⟩ := jbind e
      refine ey_iald (cd_65 rfl) e81 ?_
      refine ey_iadd (cd_65 rfl) ?_
      refine ey_istore (cd_65 rfl) mt_65 rfl ?_
      refine ey_iinc (cd_65 rfl) mt_65 rfl f5 ?_
      refine ey_goto (cd_65 rfl) rfl ?_
      cases e
      exact K (jup (jup lv 4 (jI (x4 + v80))) 5 (jI (x5 + 1))) f0 f1 f2 (jup_o rfl (jup_pi (lv := lv) (j := 3) (v := jI (x4 + v80)) (z := x3) f3)) (jup_pi (lv := (jup lv 4 (jI (x4 + v80)))) (j := 4) (v := jI (x5 + 1)) (z := (x4 + v80)) rfl) rfl
theorem jk_65_l73 {L : Nat} {xs : Nat → Int32} {this : Nat} {x1 : Option Nat} {x2 : Int} {x3 : Int} {x4 : Int} {x5 : Int} {h : jH} {x : jH} {r : mm_R} (e : jd_65_l73 this x1 x2 x3 x4 x5 h = some x) (K : (∀ lv : jL, lv 0 = some (jR (some this)) → lv 1 = some (jR x1) → lv 2 = some (jI x2) → ey (mm_xt L xs) 6 65 125 lv [] x r)) : ∀ lv : jL, lv 0 = some (jR (some this)) → lv 1 = some (jR x1) → lv 2 = some (jI x2) → lv 3 = some (jI x3) → lv 4 = some (jI x4) → lv 5 = some (jI x5) → ey (mm_xt L xs) 6 65 73 lv [] h r := by
  unfold jd_65_l73 at e
  exact jlp_ok2 (P := fun s => ∀ lv : jL, lv 0 = some (jR (some this)) → lv 1 = some (jR x1) → lv 2 = some (jI x2) → lv 3 = some (jI x3) → lv 4 = some (jI s.1) → lv 5 = some (jI s.2.1) → ey (mm_xt L xs) 6 65 73 lv [] s.2.2 r) (Q := fun x => (∀ lv : jL, lv 0 = some (jR (some this)) → lv 1 = some (jR x1) → lv 2 = some (jI x2) → ey (mm_xt L xs) 6 65 125 lv [] x r)) (fun s q hq hk => jk_65_s73 hq hk) jfu _ x e K
set_option maxRecDepth 100000 in
theorem jk_65_b143 {L : Nat} {xs : Nat → Int32} {this : Nat} {y0 : Int} {h : jH} {o : (Int × jH)} (e : jd_65_b143 this y0 h = some o) : ∀ lv : jL, ey (mm_xt L xs) 6 65 143 lv [jI y0] h (.inl (some (jcv (jI o.1)), jaH o.2)) := by
  intro lv 
  unfold jd_65_b143 at e
  obtain ⟨u89, e90, e⟩ := jbind e
  cases e
  exact ey_retz (cd_65 rfl) mt_65 rfl (jbc_s e90)
set_option maxRecDepth 100000 in
theorem jk_65_b66 {L : Nat} {xs : Nat → Int32} {this : Nat} {x1 : Option Nat} {x2 : Int} {y0 : Int} {h : jH} {o : (Int × jH)} (e : jd_65_b66 this x1 x2 y0 h = some o) : ∀ lv : jL, lv 0 = some (jR (some this)) → lv 1 = some (jR x1) → lv 2 = some (jI x2) → ey (mm_xt L xs) 6 65 66 lv [jI y0] h (.inl (some (jcv (jI o.1)), jaH o.2)) := by
  intro lv f0 f1 f2
  unfold jd_65_b66 at e
  refine ey_istore_n (cd_65 rfl) mt_65 rfl ?_
  refine ey_iconst (cd_65 rfl) ?_
  refine ey_istore (cd_65 rfl) mt_65 rfl ?_
  refine ey_iconst (cd_65 rfl) ?_
  refine ey_istore (cd_65 rfl) mt_65 rfl ?_
  obtain ⟨x82, e83, e⟩ := jbind e
  refine jk_65_l73 e83 ?_ (jup (jup (jup lv 3 (jI y0)) 4 (jI 0)) 5 (jI 0)) f0 f1 (jup_o rfl (jup_o rfl (jup_pi (lv := lv) (j := 2) (v := jI y0) (z := x2) f2))) (jup_o rfl (jup_pi (lv := (jup lv 3 (jI y0))) (j := 3) (v := jI 0) (z := y0) rfl)) (jup_pi (lv := (jup (jup lv 3 (jI y0)) 4 (jI 0))) (j := 4) (v := jI 0) (z := 0) rfl) rfl
  intro lv g0 g1 g2
  refine ey_iload_n (cd_65 rfl) g2 ?_
  by_cases q84 : (jw x2) = 0
  · rw [if_pos q84] at e
    refine ey_yne (cd_65 rfl) rfl rfl (fun w => w q84) ?_
    refine ey_aload_n (cd_65 rfl) g0 ?_
    refine ey_aload_n (cd_65 rfl) g1 ?_
    obtain ⟨u85, e86, e⟩ := jbind e
    obtain ⟨q87, e88, e⟩ := jbind e
    refine ey_cv (s0 := [jR x1, jR (some this)]) (s1 := []) (st' := [jI q87.1]) (cd_65 rfl) mt_65 mt_66 rfl rfl rfl (jck_s e86) rfl (jsml_s rfl) rfl (ok_66 e88) ?_
    refine ey_goto (cd_65 rfl) rfl ?_
    exact jk_65_b143 e lv 
  · rw [if_neg q84] at e
    refine ey_zne (cd_65 rfl) rfl rfl q84 ?_
    refine ey_aload_n (cd_65 rfl) g0 ?_
    refine ey_aload_n (cd_65 rfl) g1 ?_
    refine ey_iload_n (cd_65 rfl) g2 ?_
    obtain ⟨u91, e92, e⟩ := jbind e
    obtain ⟨q93, e94, e⟩ := jbind e
    refine ey_cv (s0 := [jI x2, jR x1, jR (some this)]) (s1 := []) (st' := [jI q93.1]) (cd_65 rfl) mt_65 mt_67 rfl rfl rfl (jck_s e92) rfl (jsml_s rfl) rfl (mm_Runs.up (d := 5) (by decide) (ok_67 e94)) ?_
    exact jk_65_b143 e lv 
set_option maxRecDepth 100000 in
theorem ok_65 {L : Nat} {xs : Nat → Int32} {this : Nat} {p0 : Option Nat} {p1 : Int} {h : jH} {o : (Int × jH)} (e : jd_65 this p0 p1 h = some o) : mm_Runs (mm_xt L xs) 7 65 ([jR (some this), jR p0, jI p1].map jcv) (jaH h) (.inl (some (jcv (jI o.1)), jaH o.2)) := by
  refine ey_run0 _ mt_65 (jsl_s rfl) ?_
  unfold jd_65 at e
  refine ey_aload_n (cd_65 rfl) rfl ?_
  obtain ⟨a1, e2, e⟩ := jbind e
  refine ey_rs (s0 := [jR p0]) (s1 := [jR (some a1)]) (by rw [e2]) ?_
  obtain ⟨u3, e4, e⟩ := jbind e
  obtain ⟨h5, e6, e⟩ := jbind e
  refine ey_cv (s0 := [jR (some a1)]) (s1 := []) (st' := []) (cd_65 rfl) mt_65 mt_22 rfl rfl rfl (jck_s e4) rfl (jsml_s rfl) rfl (mm_Runs.up (d := 1) (by decide) (ok_22 e6)) ?_
  refine ey_aload_n (cd_65 rfl) rfl ?_
  refine ey_iload_n (cd_65 rfl) rfl ?_
  refine ey_aload_n (cd_65 rfl) rfl ?_
  obtain ⟨r7, e8, e⟩ := jbind e
  refine ey_getf_r (cd_65 rfl) mt_65 rfl rfl rfl e8 ?_
  refine ey_iconst (cd_65 rfl) ?_
  obtain ⟨a9, e10, e⟩ := jbind e
  refine ey_rs (s0 := [jI 0, jR r7, jI p1, jR p0]) (s1 := [jI 0, jR (some a9), jI p1, jR p0]) (by rw [e10]) ?_
  obtain ⟨r11, e12, e⟩ := jbind e
  refine ey_aald (cd_65 rfl) (by decide) e12 ?_
  refine ey_aload_n (cd_65 rfl) rfl ?_
  obtain ⟨r13, e14, e⟩ := jbind e
  refine ey_getf_r (cd_65 rfl) mt_65 rfl rfl rfl e14 ?_
  refine ey_iconst (cd_65 rfl) ?_
  obtain ⟨a15, e16, e⟩ := jbind e
  refine ey_rs (s0 := [jI 0, jR r13, jR r11, jI p1, jR p0]) (s1 := [jI 0, jR (some a15), jR r11, jI p1, jR p0]) (by rw [e16]) ?_
  obtain ⟨v17, e18, e⟩ := jbind e
  refine ey_iald (cd_65 rfl) e18 ?_
  refine ey_aload_n (cd_65 rfl) rfl ?_
  obtain ⟨v19, e20, e⟩ := jbind e
  refine ey_getf_i (cd_65 rfl) mt_65 rfl rfl rfl e20 ?_
  obtain ⟨a21, e22, e⟩ := jbind e
  refine ey_rs (s0 := [jI v19, jI v17, jR r11, jI p1, jR p0]) (s1 := [jI v19, jI v17, jR r11, jI p1, jR (some a21)]) (by rw [e22]) ?_
  obtain ⟨u23, e24, e⟩ := jbind e
  obtain ⟨h25, e26, e⟩ := jbind e
  refine ey_cv (s0 := [jI v19, jI v17, jR r11, jI p1, jR (some a21)]) (s1 := []) (st' := []) (cd_65 rfl) mt_65 mt_26 rfl rfl rfl (jck_s e24) rfl (jsml_s rfl) rfl (mm_Runs.up (d := 3) (by decide) (ok_26 e26)) ?_
  refine ey_aload_n (cd_65 rfl) rfl ?_
  refine ey_aload_n (cd_65 rfl) rfl ?_
  obtain ⟨r27, e28, e⟩ := jbind e
  refine ey_getf_r (cd_65 rfl) mt_65 rfl rfl rfl e28 ?_
  refine ey_iconst (cd_65 rfl) ?_
  obtain ⟨a29, e30, e⟩ := jbind e
  refine ey_rs (s0 := [jI 0, jR r27, jR p0]) (s1 := [jI 0, jR (some a29), jR p0]) (by rw [e30]) ?_
  obtain ⟨r31, e32, e⟩ := jbind e
  refine ey_aald (cd_65 rfl) (by decide) e32 ?_
  obtain ⟨a33, e34, e⟩ := jbind e
  refine ey_rs (s0 := [jR r31, jR p0]) (s1 := [jR (some a33), jR p0]) (by rw [e34]) ?_
  obtain ⟨v35, e36, e⟩ := jbind e
  refine ey_getf_i (cd_65 rfl) mt_65 rfl rfl rfl e36 ?_
  refine ey_aload_n (cd_65 rfl) rfl ?_
  obtain ⟨r37, e38, e⟩ := jbind e
  refine ey_getf_r (cd_65 rfl) mt_65 rfl rfl rfl e38 ?_
  refine ey_iconst (cd_65 rfl) ?_
  obtain ⟨a39, e40, e⟩ := jbind e
  refine ey_rs (s0 := [jI 0, jR r37, jI v35, jR p0]) (s1 := [jI 0, jR (some a39), jI v35, jR p0]) (by rw [e40]) ?_
  obtain ⟨r41, e42, e⟩ := jbind e
  refine ey_aald (cd_65 rfl) (by decide) e42 ?_
  obtain ⟨a43, e44, e⟩ := jbind e
  refine ey_rs (s0 := [jR r41, jI v35, jR p0]) (s1 := [jR (some a43), jI v35, jR p0]) (by rw [e44]) ?_
  obtain ⟨v45, e46, e⟩ := jbind e
  refine ey_getf_i (cd_65 rfl) mt_65 rfl rfl rfl e46 ?_
  refine ey_iconst (cd_65 rfl) ?_
  refine ey_aload_n (cd_65 rfl) rfl ?_
  obtain ⟨v47, e48, e⟩ := jbind e
  refine ey_getf_i (cd_65 rfl) mt_65 rfl rfl rfl e48 ?_
  obtain ⟨a49, e50, e⟩ := jbind e
  refine ey_rs (s0 := [jI v47, jI 0, jI v45, jI v35, jR p0]) (s1 := [jI v47, jI 0, jI v45, jI v35, jR (some a49)]) (by rw [e50]) ?_
  obtain ⟨u51, e52, e⟩ := jbind e
  obtain ⟨h53, e54, e⟩ := jbind e
  refine ey_cv (s0 := [jI v47, jI 0, jI v45, jI v35, jR (some a49)]) (s1 := []) (st' := []) (cd_65 rfl) mt_65 mt_28 rfl rfl rfl (jck_s e52) rfl (jsml_s rfl) rfl (mm_Runs.up (d := 2) (by decide) (ok_28 e54)) ?_
  refine ey_iload_n (cd_65 rfl) rfl ?_
  by_cases q55 : (jw p1) = 0
  · rw [if_pos q55] at e
    refine ey_yne (cd_65 rfl) rfl rfl (fun w => w q55) ?_
    refine ey_aload_n (cd_65 rfl) rfl ?_
    obtain ⟨r56, e57, e⟩ := jbind e
    refine ey_getf_r (cd_65 rfl) mt_65 rfl rfl rfl e57 ?_
    refine ey_iconst (cd_65 rfl) ?_
    obtain ⟨a58, e59, e⟩ := jbind e
    refine ey_rs (s0 := [jI 2, jR r56]) (s1 := [jI 2, jR (some a58)]) (by rw [e59]) ?_
    obtain ⟨v60, e61, e⟩ := jbind e
    refine ey_iald (cd_65 rfl) e61 ?_
    refine ey_goto (cd_65 rfl) rfl ?_
    exact jk_65_b66 e (jlf (jla 0 [jR (some this), jR p0, jI p1])) rfl rfl rfl
  · rw [if_neg q55] at e
    refine ey_zne (cd_65 rfl) rfl rfl q55 ?_
    refine ey_iconst (cd_65 rfl) ?_
    exact jk_65_b66 e (jlf (jla 0 [jR (some this), jR p0, jI p1])) rfl rfl rfl
