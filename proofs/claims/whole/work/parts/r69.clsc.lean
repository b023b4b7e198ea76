theorem cd_25 {pc : Nat} {i : Instr × Nat} (h : mm_lk mm_c25 pc = some i) : mm_cd 25 pc = some i := h
theorem mt_25 : mm_MT 25 = (2, 3, none, 1, 0, []) := rfl
set_option maxRecDepth 100000 in
theorem jk_25_b57 {L : Nat} {xs : Nat → Int32} {this : Nat} {x2 : Option Nat} {h : jH} {o : jH} (e : jd_25_b57 this x2 h = some o) : ∀ lv : jL, lv 0 = some (jR (some this)) → lv 2 = some (jR x2) → ey (mm_xt L xs) 0 25 57 lv [] h (.inl (none, jaH o)) := by
  intro lv f0 f2
  unfold jd_25_b57 at e
  refine ey_aload_n (cd_25 rfl) f0 ?_
  refine ey_aload_n (cd_25 rfl) f2 ?_
  obtain ⟨h9, e10, e⟩ := jbind e
  refine ey_putf_r (cd_25 rfl) mt_25 rfl rfl rfl e10 ?_
  cases e
  exact ey_retv (cd_25 rfl) mt_25 rfl
set_option maxRecDepth 100000 in
theorem jk_25_b17 {L : Nat} {xs : Nat → Int32} {this : Nat} {x1 : Int} {h : jH} {o : jH} (e : jd_25_b17 this x1 h = some o) : ∀ lv : jL, lv 0 = some (jR (some this)) → lv 1 = some (jI x1) → ey (mm_xt L xs) 0 25 17 lv [] h (.inl (none, jaH o)) := by
  intro lv f0 f1
  unfold jd_25_b17 at e
  refine ey_iload_n (cd_25 rfl) f1 ?_
  refine ey_sipush (cd_25 rfl) (by decide) ?_
  have K20 : ∀ lv : jL, lv 0 = some (jR (some this)) → ey (mm_xt L xs) 0 25 33 lv [jI (if 4000 < (jw x1) then 24067 else 4000)] h (.inl (none, jaH o)) := by
    intro lv g0
    obtain ⟨n4, e5, e⟩ := jbind e
    refine ey_newarr (cd_25 rfl) (by decide) e5 ?_
    refine ey_astore_n (cd_25 rfl) mt_25 rfl ?_
    refine ey_aload_n (cd_25 rfl) g0 ?_
    obtain ⟨r6, e7, e⟩ := jbind e
    refine ey_getf_r (cd_25 rfl) mt_25 rfl rfl rfl e7 ?_
    by_cases q8 : r6 = none
    · rw [if_pos q8] at e
      refine ey_rs (s0 := [jR r6]) (s1 := [jR none]) (by rw [q8]) ?_
      refine ey_ifnull_n (cd_25 rfl) rfl ?_
      exact jk_25_b57 e (jup lv 2 (jR (some n4.1))) g0 rfl
    · rw [if_neg q8] at e
      obtain ⟨w19, w19e⟩ := Option.ne_none_iff_exists'.mp q8
      refine ey_rs (s0 := [jR r6]) (s1 := [jR (some w19)]) (by rw [w19e]) ?_
      refine ey_ifnull_s (cd_25 rfl) rfl ?_
      refine ey_aload_n (cd_25 rfl) g0 ?_
      obtain ⟨r11, e12, e⟩ := jbind e
      refine ey_getf_r (cd_25 rfl) mt_25 rfl rfl rfl e12 ?_
      refine ey_iconst (cd_25 rfl) ?_
      refine ey_aload_n (cd_25 rfl) rfl ?_
      refine ey_iconst (cd_25 rfl) ?_
      refine ey_aload_n (cd_25 rfl) g0 ?_
      obtain ⟨v13, e14, e⟩ := jbind e
      refine ey_getf_i (cd_25 rfl) mt_25 rfl rfl rfl e14 ?_
      obtain ⟨a15, e16, e⟩ := jbind e
      refine ey_rs (s0 := [jI v13, jI 0, jR (some n4.1), jI 0, jR r11]) (s1 := [jI v13, jI 0, jR (some n4.1), jI 0, jR (some a15)]) (by rw [e16]) ?_
      obtain ⟨h17, e18, e⟩ := jbind e
      refine ey_cpy (cd_25 rfl) mt_25 rfl (jsml_s rfl) e18 ?_
      exact jk_25_b57 e (jup lv 2 (jR (some n4.1))) g0 rfl
  by_cases q21 : 4000 < (jw x1)
  · refine ey_cgt (cd_25 rfl) rfl rfl (show jw 4000 = 4000 from by decide) q21 ?_
    refine ey_sipush (cd_25 rfl) (by decide) ?_
    exact ey_rs (s0 := [jI 24067]) (s1 := [jI (if 4000 < (jw x1) then 24067 else 4000)]) (by rw [show ((if 4000 < (jw x1) then 24067 else 4000) : Int) = 24067 from (if_pos q21)]) (K20 lv f0)
  · refine ey_ngt (cd_25 rfl) rfl rfl (show jw 4000 = 4000 from by decide) q21 ?_
    refine ey_sipush (cd_25 rfl) (by decide) ?_
    refine ey_goto (cd_25 rfl) rfl ?_
    exact ey_rs (s0 := [jI 4000]) (s1 := [jI (if 4000 < (jw x1) then 24067 else 4000)]) (by rw [show ((if 4000 < (jw x1) then 24067 else 4000) : Int) = 4000 from (if_neg q21)]) (K20 lv f0)
set_option maxRecDepth 100000 in
theorem ok_25 {L : Nat} {xs : Nat → Int32} {this : Nat} {p0 : Int} {h : jH} {o : jH} (e : jd_25 this p0 h = some o) : mm_Runs (mm_xt L xs) 1 25 ([jR (some this), jI p0].map jcv) (jaH h) (.inl (none, jaH o)) := by
  refine ey_run0 _ mt_25 (jsl_s rfl) ?_
  unfold jd_25 at e
  refine ey_aload_n (cd_25 rfl) rfl ?_
  obtain ⟨r1, e2, e⟩ := jbind e
  refine ey_getf_r (cd_25 rfl) mt_25 rfl rfl rfl e2 ?_
  by_cases q3 : r1 = none
  · rw [if_pos q3] at e
    refine ey_rs (s0 := [jR r1]) (s1 := [jR none]) (by rw [q3]) ?_
    refine ey_ifnull_n (cd_25 rfl) rfl ?_
    exact jk_25_b17 e (jlf (jla 0 [jR (some this), jI p0])) rfl rfl
  · rw [if_neg q3] at e
    obtain ⟨w29, w29e⟩ := Option.ne_none_iff_exists'.mp q3
    refine ey_rs (s0 := [jR r1]) (s1 := [jR (some w29)]) (by rw [w29e]) ?_
    refine ey_ifnull_s (cd_25 rfl) rfl ?_
    refine ey_iload_n (cd_25 rfl) rfl ?_
    refine ey_aload_n (cd_25 rfl) rfl ?_
    obtain ⟨r22, e23, e⟩ := jbind e
    refine ey_getf_r (cd_25 rfl) mt_25 rfl rfl rfl e23 ?_
    obtain ⟨a24, e25, e⟩ := jbind e
    refine ey_rs (s0 := [jR r22, jI p0]) (s1 := [jR (some a24), jI p0]) (by rw [e25]) ?_
    obtain ⟨v26, e27, e⟩ := jbind e
    refine ey_alen (cd_25 rfl) e27 ?_
    by_cases q28 : (jw v26) < (jw p0)
    · rw [if_pos q28] at e
      refine ey_cgt (cd_25 rfl) rfl rfl rfl q28 ?_
      exact jk_25_b17 e (jlf (jla 0 [jR (some this), jI p0])) rfl rfl
    · rw [if_neg q28] at e
      refine ey_ngt (cd_25 rfl) rfl rfl rfl q28 ?_
      cases e
      exact ey_retv (cd_25 rfl) mt_25 rfl
theorem cd_23 {pc : Nat} {i : Instr × Nat} (h : mm_lk mm_c23 pc = some i) : mm_cd 23 pc = some i := h
theorem mt_23 : mm_MT 23 = (2, 4, none, 3, 0, []) := rfl
set_option maxRecDepth 100000 in
theorem jk_23_b48 {L : Nat} {xs : Nat → Int32} {this : Nat}  {h : jH} {o : jH} (e : jd_23_b48 this  h = some o) : ∀ lv : jL, ey (mm_xt L xs) 1 23 48 lv [] h (.inl (none, jaH o)) := by
  intro lv 
  unfold jd_23_b48 at e
  cases e
  exact ey_retv (cd_23 rfl) mt_23 rfl
set_option maxRecDepth 100000 in
theorem ok_23 {L : Nat} {xs : Nat → Int32} {this : Nat} {p0 : Option Nat} {p1 : Int} {p2 : Int} {h : jH} {o : jH} (e : jd_23 this p0 p1 p2 h = some o) : mm_Runs (mm_xt L xs) 2 23 ([jR (some this), jR p0, jI p1, jI p2].map jcv) (jaH h) (.inl (none, jaH o)) := by
  refine ey_run0 _ mt_23 (jsl_s rfl) ?_
  unfold jd_23 at e
  refine ey_aload_n (cd_23 rfl) rfl ?_
  refine ey_aload_n (cd_23 rfl) rfl ?_
  obtain ⟨v1, e2, e⟩ := jbind e
  refine ey_getf_i (cd_23 rfl) mt_23 rfl rfl rfl e2 ?_
  refine ey_iload_n (cd_23 rfl) rfl ?_
  refine ey_iadd (cd_23 rfl) ?_
  obtain ⟨u3, e4, e⟩ := jbind e
  obtain ⟨h5, e6, e⟩ := jbind e
  refine ey_cv (s0 := [jI (v1 + p2), jR (some this)]) (s1 := []) (st' := []) (cd_23 rfl) mt_23 mt_25 rfl rfl rfl (jck_s e4) rfl (jsml_s rfl) rfl (ok_25 e6) ?_
  refine ey_aload_n (cd_23 rfl) rfl ?_
  obtain ⟨v7, e8, e⟩ := jbind e
  refine ey_getf_i (cd_23 rfl) mt_23 rfl rfl rfl e8 ?_
  refine ey_iload_n (cd_23 rfl) rfl ?_
  refine ey_iadd (cd_23 rfl) ?_
  refine ey_aload_n (cd_23 rfl) rfl ?_
  obtain ⟨r9, e10, e⟩ := jbind e
  refine ey_getf_r (cd_23 rfl) mt_23 rfl rfl rfl e10 ?_
  obtain ⟨a11, e12, e⟩ := jbind e
  refine ey_rs (s0 := [jR r9, jI (v7 + p2)]) (s1 := [jR (some a11), jI (v7 + p2)]) (by rw [e12]) ?_
  obtain ⟨v13, e14, e⟩ := jbind e
  refine ey_alen (cd_23 rfl) e14 ?_
  by_cases q15 : (jw v13) < (jw (v7 + p2))
  · rw [if_pos q15] at e
    refine ey_cgt (cd_23 rfl) rfl rfl rfl q15 ?_
    exact jk_23_b48 e (jlf (jla 0 [jR (some this), jR p0, jI p1, jI p2])) 
  · rw [if_neg q15] at e
    refine ey_ngt (cd_23 rfl) rfl rfl rfl q15 ?_
    refine ey_aload_n (cd_23 rfl) rfl ?_
    refine ey_iload_n (cd_23 rfl) rfl ?_
    refine ey_aload_n (cd_23 rfl) rfl ?_
    obtain ⟨r16, e17, e⟩ := jbind e
    refine ey_getf_r (cd_23 rfl) mt_23 rfl rfl rfl e17 ?_
    refine ey_aload_n (cd_23 rfl) rfl ?_
    obtain ⟨v18, e19, e⟩ := jbind e
    refine ey_getf_i (cd_23 rfl) mt_23 rfl rfl rfl e19 ?_
    refine ey_iload_n (cd_23 rfl) rfl ?_
    obtain ⟨a20, e21, e⟩ := jbind e
    refine ey_rs (s0 := [jI p2, jI v18, jR r16, jI p1, jR p0]) (s1 := [jI p2, jI v18, jR (some a20), jI p1, jR p0]) (by rw [e21]) ?_
    obtain ⟨a22, e23, e⟩ := jbind e
    refine ey_rs (s0 := [jI p2, jI v18, jR (some a20), jI p1, jR p0]) (s1 := [jI p2, jI v18, jR (some a20), jI p1, jR (some a22)]) (by rw [e23]) ?_
    obtain ⟨h24, e25, e⟩ := jbind e
    refine ey_cpy (cd_23 rfl) mt_23 rfl (jsml_s rfl) e25 ?_
    refine ey_aload_n (cd_23 rfl) rfl ?_
    refine ey_dup (cd_23 rfl) rfl ?_
    obtain ⟨v26, e27, e⟩ := jbind e
    refine ey_getf_i (cd_23 rfl) mt_23 rfl rfl rfl e27 ?_
    refine ey_iload_n (cd_23 rfl) rfl ?_
    refine ey_iadd (cd_23 rfl) ?_
    obtain ⟨h28, e29, e⟩ := jbind e
    refine ey_putf_i (cd_23 rfl) mt_23 rfl rfl rfl e29 ?_
    exact jk_23_b48 e (jlf (jla 0 [jR (some this), jR p0, jI p1, jI p2])) 
theorem cd_24 {pc : Nat} {i : Instr × Nat} (h : mm_lk mm_c24 pc = some i) : mm_cd 24 pc = some i := h
theorem mt_24 : mm_MT 24 = (2, 2, none, 1, 0, []) := rfl
set_option maxRecDepth 100000 in
theorem jk_24_b40 {L : Nat} {xs : Nat → Int32} {this : Nat}  {h : jH} {o : jH} (e : jd_24_b40 this  h = some o) : ∀ lv : jL, ey (mm_xt L xs) 1 24 40 lv [] h (.inl (none, jaH o)) := by
  intro lv 
  unfold jd_24_b40 at e
  cases e
  exact ey_retv (cd_24 rfl) mt_24 rfl
set_option maxRecDepth 100000 in
theorem ok_24 {L : Nat} {xs : Nat → Int32} {this : Nat} {p0 : Int} {h : jH} {o : jH} (e : jd_24 this p0 h = some o) : mm_Runs (mm_xt L xs) 2 24 ([jR (some this), jI p0].map jcv) (jaH h) (.inl (none, jaH o)) := by
  refine ey_run0 _ mt_24 (jsl_s rfl) ?_
  unfold jd_24 at e
  refine ey_aload_n (cd_24 rfl) rfl ?_
  refine ey_aload_n (cd_24 rfl) rfl ?_
  obtain ⟨v1, e2, e⟩ := jbind e
  refine ey_getf_i (cd_24 rfl) mt_24 rfl rfl rfl e2 ?_
  refine ey_iconst (cd_24 rfl) ?_
  refine ey_iadd (cd_24 rfl) ?_
  obtain ⟨u3, e4, e⟩ := jbind e
  obtain ⟨h5, e6, e⟩ := jbind e
  refine ey_cv (s0 := [jI (v1 + 1), jR (some this)]) (s1 := []) (st' := []) (cd_24 rfl) mt_24 mt_25 rfl rfl rfl (jck_s e4) rfl (jsml_s rfl) rfl (ok_25 e6) ?_
  refine ey_aload_n (cd_24 rfl) rfl ?_
  obtain ⟨v7, e8, e⟩ := jbind e
  refine ey_getf_i (cd_24 rfl) mt_24 rfl rfl rfl e8 ?_
  refine ey_aload_n (cd_24 rfl) rfl ?_
  obtain ⟨r9, e10, e⟩ := jbind e
  refine ey_getf_r (cd_24 rfl) mt_24 rfl rfl rfl e10 ?_
  obtain ⟨a11, e12, e⟩ := jbind e
  refine ey_rs (s0 := [jR r9, jI v7]) (s1 := [jR (some a11), jI v7]) (by rw [e12]) ?_
  obtain ⟨v13, e14, e⟩ := jbind e
  refine ey_alen (cd_24 rfl) e14 ?_
  by_cases q15 : (jw v13) ≤ (jw v7)
  · rw [if_pos q15] at e
    refine ey_cge (cd_24 rfl) rfl rfl rfl q15 ?_
    exact jk_24_b40 e (jlf (jla 0 [jR (some this), jI p0])) 
  · rw [if_neg q15] at e
    refine ey_nge (cd_24 rfl) rfl rfl rfl q15 ?_
    refine ey_aload_n (cd_24 rfl) rfl ?_
    obtain ⟨r16, e17, e⟩ := jbind e
    refine ey_getf_r (cd_24 rfl) mt_24 rfl rfl rfl e17 ?_
    refine ey_aload_n (cd_24 rfl) rfl ?_
    refine ey_dup (cd_24 rfl) rfl ?_
    obtain ⟨v18, e19, e⟩ := jbind e
    refine ey_getf_i (cd_24 rfl) mt_24 rfl rfl rfl e19 ?_
    refine ey_dupx1 (cd_24 rfl) rfl rfl ?_
    refine ey_iconst (cd_24 rfl) ?_
    refine ey_iadd (cd_24 rfl) ?_
    obtain ⟨h20, e21, e⟩ := jbind e
    refine ey_putf_i (cd_24 rfl) mt_24 rfl rfl rfl e21 ?_
    refine ey_iload_n (cd_24 rfl) rfl ?_
    refine ey_i2b (cd_24 rfl) ?_
    obtain ⟨a22, e23, e⟩ := jbind e
    refine ey_rs (s0 := [jI (jwb p0), jI v18, jR r16]) (s1 := [jI (jwb p0), jI v18, jR (some a22)]) (by rw [e23]) ?_
    obtain ⟨h24, e25, e⟩ := jbind e
    refine ey_bast (cd_24 rfl) e25 ?_
    exact jk_24_b40 e (jlf (jla 0 [jR (some this), jI p0])) 
theorem cd_26 {pc : Nat} {i : Instr × Nat} (h : mm_lk mm_c26 pc = some i) : mm_cd 26 pc = some i := h
theorem mt_26 : mm_MT 26 = (2, 5, none, 4, 0, []) := rfl
set_option maxRecDepth 100000 in
theorem ok_26 {L : Nat} {xs : Nat → Int32} {this : Nat} {p0 : Int} {p1 : Option Nat} {p2 : Int} {p3 : Int} {h : jH} {o : jH} (e : jd_26 this p0 p1 p2 p3 h = some o) : mm_Runs (mm_xt L xs) 3 26 ([jR (some this), jI p0, jR p1, jI p2, jI p3].map jcv) (jaH h) (.inl (none, jaH o)) := by
  refine ey_run0 _ mt_26 (jsl_s rfl) ?_
  unfold jd_26 at e
  refine ey_aload_n (cd_26 rfl) rfl ?_
  refine ey_gs (cd_26 rfl) mt_26 rfl rfl ?_
  refine ey_iconst (cd_26 rfl) ?_
  obtain ⟨v1, e2, e⟩ := jbind e
  refine ey_iast_x (cd_26 rfl) (by decide) e2 ?_
  obtain ⟨u3, e4, e⟩ := jbind e
  obtain ⟨h5, e6, e⟩ := jbind e
  refine ey_cv (s0 := [jI v1, jR (some this)]) (s1 := []) (st' := []) (cd_26 rfl) mt_26 mt_24 rfl rfl rfl (jck_s e4) rfl (jsml_s rfl) rfl (ok_24 e6) ?_
  refine ey_aload_n (cd_26 rfl) rfl ?_
  refine ey_gs (cd_26 rfl) mt_26 rfl rfl ?_
  refine ey_iconst (cd_26 rfl) ?_
  obtain ⟨v7, e8, e⟩ := jbind e
  refine ey_iast_x (cd_26 rfl) (by decide) e8 ?_
  obtain ⟨u9, e10, e⟩ := jbind e
  obtain ⟨h11, e12, e⟩ := jbind e
  refine ey_cv (s0 := [jI v7, jR (some this)]) (s1 := []) (st' := []) (cd_26 rfl) mt_26 mt_24 rfl rfl rfl (jck_s e10) rfl (jsml_s rfl) rfl (ok_24 e12) ?_
  refine ey_aload_n (cd_26 rfl) rfl ?_
  refine ey_iload_n (cd_26 rfl) rfl ?_
  obtain ⟨u13, e14, e⟩ := jbind e
  obtain ⟨h15, e16, e⟩ := jbind e
  refine ey_cv (s0 := [jI p0, jR (some this)]) (s1 := []) (st' := []) (cd_26 rfl) mt_26 mt_24 rfl rfl rfl (jck_s e14) rfl (jsml_s rfl) rfl (ok_24 e16) ?_
  refine ey_aload_n (cd_26 rfl) rfl ?_
  refine ey_aload_n (cd_26 rfl) rfl ?_
  obtain ⟨a17, e18, e⟩ := jbind e
  refine ey_rs (s0 := [jR p1, jR (some this)]) (s1 := [jR (some a17), jR (some this)]) (by rw [e18]) ?_
  obtain ⟨v19, e20, e⟩ := jbind e
  refine ey_getf_i (cd_26 rfl) mt_26 rfl rfl rfl e20 ?_
  refine ey_bipush (cd_26 rfl) (by decide) ?_
  refine ey_idiv (cd_26 rfl) (by decide) ?_
  obtain ⟨u21, e22, e⟩ := jbind e
  obtain ⟨h23, e24, e⟩ := jbind e
  refine ey_cv (s0 := [jI (jdiv v19 8), jR (some this)]) (s1 := []) (st' := []) (cd_26 rfl) mt_26 mt_24 rfl rfl rfl (jck_s e22) rfl (jsml_s rfl) rfl (ok_24 e24) ?_
  refine ey_aload_n (cd_26 rfl) rfl ?_
  refine ey_aload_n (cd_26 rfl) rfl ?_
  obtain ⟨a25, e26, e⟩ := jbind e
  refine ey_rs (s0 := [jR p1, jR (some this)]) (s1 := [jR (some a25), jR (some this)]) (by rw [e26]) ?_
  obtain ⟨v27, e28, e⟩ := jbind e
  refine ey_getf_i (cd_26 rfl) mt_26 rfl rfl rfl e28 ?_
  refine ey_bipush (cd_26 rfl) (by decide) ?_
  refine ey_idiv (cd_26 rfl) (by decide) ?_
  obtain ⟨u29, e30, e⟩ := jbind e
  obtain ⟨h31, e32, e⟩ := jbind e
  refine ey_cv (s0 := [jI (jdiv v27 8), jR (some this)]) (s1 := []) (st' := []) (cd_26 rfl) mt_26 mt_24 rfl rfl rfl (jck_s e30) rfl (jsml_s rfl) rfl (ok_24 e32) ?_
  refine ey_aload_n (cd_26 rfl) rfl ?_
  refine ey_iload_n (cd_26 rfl) rfl ?_
  obtain ⟨u33, e34, e⟩ := jbind e
  obtain ⟨h35, e36, e⟩ := jbind e
  refine ey_cv (s0 := [jI p2, jR (some this)]) (s1 := []) (st' := []) (cd_26 rfl) mt_26 mt_24 rfl rfl rfl (jck_s e34) rfl (jsml_s rfl) rfl (ok_24 e36) ?_
  refine ey_aload_n (cd_26 rfl) rfl ?_
  refine ey_iload (cd_26 rfl) rfl ?_
  obtain ⟨u37, e38, e⟩ := jbind e
  obtain ⟨h39, e40, e⟩ := jbind e
  refine ey_cv (s0 := [jI p3, jR (some this)]) (s1 := []) (st' := []) (cd_26 rfl) mt_26 mt_24 rfl rfl rfl (jck_s e38) rfl (jsml_s rfl) rfl (ok_24 e40) ?_
  cases e
  exact ey_retv (cd_26 rfl) mt_26 rfl
theorem cd_27 {pc : Nat} {i : Instr × Nat} (h : mm_lk mm_c27 pc = some i) : mm_cd 27 pc = some i := h
theorem mt_27 : mm_MT 27 = (2, 6, none, 5, 0, []) := rfl
set_option maxRecDepth 100000 in
theorem ok_27 {L : Nat} {xs : Nat → Int32} {this : Nat} {p0 : Int} {p1 : Int} {p2 : Option Nat} {p3 : Int} {p4 : Int} {h : jH} {o : jH} (e : jd_27 this p0 p1 p2 p3 p4 h = some o) : mm_Runs (mm_xt L xs) 3 27 ([jR (some this), jI p0, jI p1, jR p2, jI p3, jI p4].map jcv) (jaH h) (.inl (none, jaH o)) := by
  refine ey_run0 _ mt_27 (jsl_s rfl) ?_
  unfold jd_27 at e
  refine ey_aload_n (cd_27 rfl) rfl ?_
  refine ey_aload_n (cd_27 rfl) rfl ?_
  obtain ⟨r1, e2, e⟩ := jbind e
  refine ey_getf_r (cd_27 rfl) mt_27 rfl rfl rfl e2 ?_
  refine ey_iload_n (cd_27 rfl) rfl ?_
  obtain ⟨a3, e4, e⟩ := jbind e
  refine ey_rs (s0 := [jI p0, jR r1, jR (some this)]) (s1 := [jI p0, jR (some a3), jR (some this)]) (by rw [e4]) ?_
  obtain ⟨v5, e6, e⟩ := jbind e
  refine ey_iald (cd_27 rfl) e6 ?_
  obtain ⟨u7, e8, e⟩ := jbind e
  obtain ⟨h9, e10, e⟩ := jbind e
  refine ey_cv (s0 := [jI v5, jR (some this)]) (s1 := []) (st' := []) (cd_27 rfl) mt_27 mt_24 rfl rfl rfl (jck_s e8) rfl (jsml_s rfl) rfl (ok_24 e10) ?_
  refine ey_aload_n (cd_27 rfl) rfl ?_
  refine ey_aload_n (cd_27 rfl) rfl ?_
  obtain ⟨r11, e12, e⟩ := jbind e
  refine ey_getf_r (cd_27 rfl) mt_27 rfl rfl rfl e12 ?_
  refine ey_iload_n (cd_27 rfl) rfl ?_
  obtain ⟨a13, e14, e⟩ := jbind e
  refine ey_rs (s0 := [jI p0, jR r11, jR (some this)]) (s1 := [jI p0, jR (some a13), jR (some this)]) (by rw [e14]) ?_
  obtain ⟨v15, e16, e⟩ := jbind e
  refine ey_iald (cd_27 rfl) e16 ?_
  obtain ⟨u17, e18, e⟩ := jbind e
  obtain ⟨h19, e20, e⟩ := jbind e
  refine ey_cv (s0 := [jI v15, jR (some this)]) (s1 := []) (st' := []) (cd_27 rfl) mt_27 mt_24 rfl rfl rfl (jck_s e18) rfl (jsml_s rfl) rfl (ok_24 e20) ?_
  refine ey_aload_n (cd_27 rfl) rfl ?_
  refine ey_iload_n (cd_27 rfl) rfl ?_
  obtain ⟨u21, e22, e⟩ := jbind e
  obtain ⟨h23, e24, e⟩ := jbind e
  refine ey_cv (s0 := [jI p1, jR (some this)]) (s1 := []) (st' := []) (cd_27 rfl) mt_27 mt_24 rfl rfl rfl (jck_s e22) rfl (jsml_s rfl) rfl (ok_24 e24) ?_
  refine ey_aload_n (cd_27 rfl) rfl ?_
  refine ey_iload (cd_27 rfl) rfl ?_
  refine ey_bipush (cd_27 rfl) (by decide) ?_
  refine ey_ishr (cd_27 rfl) ?_
  obtain ⟨u25, e26, e⟩ := jbind e
  obtain ⟨h27, e28, e⟩ := jbind e
  refine ey_cv (s0 := [jI (jshr p4 8), jR (some this)]) (s1 := []) (st' := []) (cd_27 rfl) mt_27 mt_24 rfl rfl rfl (jck_s e26) rfl (jsml_s rfl) rfl (ok_24 e28) ?_
  refine ey_aload_n (cd_27 rfl) rfl ?_
  refine ey_iload (cd_27 rfl) rfl ?_
  obtain ⟨u29, e30, e⟩ := jbind e
  obtain ⟨h31, e32, e⟩ := jbind e
  refine ey_cv (s0 := [jI p4, jR (some this)]) (s1 := []) (st' := []) (cd_27 rfl) mt_27 mt_24 rfl rfl rfl (jck_s e30) rfl (jsml_s rfl) rfl (ok_24 e32) ?_
  refine ey_aload_n (cd_27 rfl) rfl ?_
  refine ey_aload_n (cd_27 rfl) rfl ?_
  refine ey_iload (cd_27 rfl) rfl ?_
  refine ey_iload (cd_27 rfl) rfl ?_
  obtain ⟨u33, e34, e⟩ := jbind e
  obtain ⟨h35, e36, e⟩ := jbind e
  refine ey_cv (s0 := [jI p4, jI p3, jR p2, jR (some this)]) (s1 := []) (st' := []) (cd_27 rfl) mt_27 mt_23 rfl rfl rfl (jck_s e34) rfl (jsml_s rfl) rfl (ok_23 e36) ?_
  cases e
  exact ey_retv (cd_27 rfl) mt_27 rfl
theorem cd_94 {pc : Nat} {i : Instr × Nat} (h : mm_lk mm_c94 pc = some i) : mm_cd 94 pc = some i := h
theorem mt_94 : mm_MT 94 = (6, 1, none, 0, 2, []) := rfl
set_option maxRecDepth 100000 in
theorem ok_94 {L : Nat} {xs : Nat → Int32} {this : Nat}  {h : jH} {o : jH} (e : jd_94 this  h = some o) : mm_Runs (mm_xt L xs) 1 94 ([jR (some this)].map jcv) (jaH h) (.inl (none, jaH o)) := by
  refine ey_run0 _ mt_94 (jsl_s rfl) ?_
  unfold jd_94 at e
  refine ey_aload_n (cd_94 rfl) rfl ?_
  refine ey_oini (cd_94 rfl) mt_94 rfl (jsml_s rfl) ?_
  refine ey_aload_n (cd_94 rfl) rfl ?_
  refine ey_bipush (cd_94 rfl) (by decide) ?_
  obtain ⟨h1, e2, e⟩ := jbind e
  refine ey_putf_i (cd_94 rfl) mt_94 rfl rfl rfl e2 ?_
  refine ey_aload_n (cd_94 rfl) rfl ?_
  refine ey_bipush (cd_94 rfl) (by decide) ?_
  obtain ⟨h3, e4, e⟩ := jbind e
  refine ey_putf_i (cd_94 rfl) mt_94 rfl rfl rfl e4 ?_
  refine ey_aload_n (cd_94 rfl) rfl ?_
  refine ey_sipush (cd_94 rfl) (by decide) ?_
  obtain ⟨n5, e6, e⟩ := jbind e
  refine ey_newarr (cd_94 rfl) (by decide) e6 ?_
  obtain ⟨h7, e8, e⟩ := jbind e
  refine ey_putf_r (cd_94 rfl) mt_94 rfl rfl rfl e8 ?_
  cases e
  exact ey_retv (cd_94 rfl) mt_94 rfl
theorem cd_95 {pc : Nat} {i : Instr × Nat} (h : mm_lk mm_c95 pc = some i) : mm_cd 95 pc = some i := h
theorem mt_95 : mm_MT 95 = (6, 3, none, 2, 0, []) := rfl
set_option maxRecDepth 100000 in
theorem ok_95 {L : Nat} {xs : Nat → Int32} {this : Nat} {p0 : Int} {p1 : Int} {h : jH} {o : jH} (e : jd_95 this p0 p1 h = some o) : mm_Runs (mm_xt L xs) 1 95 ([jR (some this), jI p0, jI p1].map jcv) (jaH h) (.inl (none, jaH o)) := by
  refine ey_run0 _ mt_95 (jsl_s rfl) ?_
  unfold jd_95 at e
  refine ey_aload_n (cd_95 rfl) rfl ?_
  refine ey_iload_n (cd_95 rfl) rfl ?_
  obtain ⟨h1, e2, e⟩ := jbind e
  refine ey_putf_i (cd_95 rfl) mt_95 rfl rfl rfl e2 ?_
  refine ey_aload_n (cd_95 rfl) rfl ?_
  refine ey_iload_n (cd_95 rfl) rfl ?_
  obtain ⟨h3, e4, e⟩ := jbind e
  refine ey_putf_i (cd_95 rfl) mt_95 rfl rfl rfl e4 ?_
  cases e
  exact ey_retv (cd_95 rfl) mt_95 rfl
theorem cd_28 {pc : Nat} {i : Instr × Nat} (h : mm_lk mm_c28 pc = some i) : mm_cd 28 pc = some i := h
theorem mt_28 : mm_MT 28 = (2, 6, none, 4, 0, []) := rfl
set_option maxRecDepth 100000 in
theorem jk_28_b41 {L : Nat} {xs : Nat → Int32} {this : Nat} {x1 : Int} {x2 : Int} {x4 : Int} {x5 : Int} {h : jH} {o : ((Int × jH) ⊕ jH)} {r : mm_R} (e : jd_28_b41 this x1 x2 x4 x5 h = some o) (K : jsm (fun s => (∀ lv : jL, lv 0 = some (jR (some this)) → lv 1 = some (jI x1) → lv 2 = some (jI x2) → lv 4 = some (jI x4) → lv 5 = some (jI s.1) → ey (mm_xt L xs) 1 28 3 lv [] s.2 r)) (fun x => (∀ lv : jL, ey (mm_xt L xs) 1 28 59 lv [] x r)) o) : ∀ lv : jL, lv 0 = some (jR (some this)) → lv 1 = some (jI x1) → lv 2 = some (jI x2) → lv 4 = some (jI x4) → lv 5 = some (jI x5) → ey (mm_xt L xs) 1 28 41 lv [] h r := by
  intro lv f0 f1 f2 f4 f5
  unfold jd_28_b41 at e
  refine ey_aload_n (cd_28 rfl) f0 ?_
  obtain ⟨r20, e21, e⟩ := jbind e
  refine ey_getf_r (cd_28 rfl) mt_28 rfl rfl rfl e21 ?_
  refine ey_iload (cd_28 rfl) f5 ?_
  obtain ⟨a22, e23, e⟩ := jbind e
  refine ey_rs (s0 := [jI x5, jR r20]) (s1 := [jI x5, jR (some a22)]) (by rw [e23]) ?_
  obtain ⟨r24, e25, e⟩ := jbind e
  refine ey_aald (cd_28 rfl) (by decide) e25 ?_
  refine ey_iload_n (cd_28 rfl) f1 ?_
  refine ey_iload_n (cd_28 rfl) f2 ?_
  obtain ⟨a26, e27, e⟩ := jbind e
  refine ey_rs (s0 := [jI x2, jI x1, jR r24]) (s1 := [jI x2, jI x1, jR (some a26)]) (by rw [e27]) ?_
  obtain ⟨u28, e29, e⟩ := jbind e
  obtain ⟨h30, e31, e⟩ := jbind e
  refine ey_cv (s0 := [jI x2, jI x1, jR (some a26)]) (s1 := []) (st' := []) (cd_28 rfl) mt_28 mt_95 rfl rfl rfl (jck_s e29) rfl (jsml_s rfl) rfl (ok_95 e31) ?_
  refine ey_iinc (cd_28 rfl) mt_28 rfl f5 ?_
  refine ey_goto (cd_28 rfl) rfl ?_
  cases e
  exact K (jup lv 5 (jI (x5 + 1))) f0 f1 f2 (jup_pi (lv := lv) (j := 4) (v := jI (x5 + 1)) (z := x4) f4) rfl
set_option maxRecDepth 100000 in
theorem jk_28_s3 {L : Nat} {xs : Nat → Int32} {this : Nat} {x1 : Int} {x2 : Int} {x4 : Int} {x5 : Int} {h : jH} {o : ((Int × jH) ⊕ jH)} {r : mm_R} (e : jd_28_s3 this x1 x2 x4 x5 h = some o) (K : jsm (fun s => (∀ lv : jL, lv 0 = some (jR (some this)) → lv 1 = some (jI x1) → lv 2 = some (jI x2) → lv 4 = some (jI x4) → lv 5 = some (jI s.1) → ey (mm_xt L xs) 1 28 3 lv [] s.2 r)) (fun x => (∀ lv : jL, ey (mm_xt L xs) 1 28 59 lv [] x r)) o) : ∀ lv : jL, lv 0 = some (jR (some this)) → lv 1 = some (jI x1) → lv 2 = some (jI x2) → lv 4 = some (jI x4) → lv 5 = some (jI x5) → ey (mm_xt L xs) 1 28 3 lv [] h r := by
  intro lv f0 f1 f2 f4 f5
  unfold jd_28_s3 at e
  refine ey_iload (cd_28 rfl) f5 ?_
  refine ey_iload (cd_28 rfl) f4 ?_
  by_cases q1 : (jw x4) ≤ (jw x5)
  · rw [if_pos q1] at e
    refine ey_cge (cd_28 rfl) rfl rfl rfl q1 ?_
    cases e
    exact K lv 
  · rw [if_neg q1] at e
    refine ey_nge (cd_28 rfl) rfl rfl rfl q1 ?_
    refine ey_iload (cd_28 rfl) f5 ?_
    refine ey_bipush (cd_28 rfl) (by decide) ?_
    by_cases q2 : 12 ≤ (jw x5)
    · rw [if_pos q2] at e
      refine ey_cge (cd_28 rfl) rfl rfl (show jw 12 = 12 from by decide) q2 ?_
      cases e
      exact K lv 
    · rw [if_neg q2] at e
      refine ey_nge (cd_28 rfl) rfl rfl (show jw 12 = 12 from by decide) q2 ?_
      refine ey_aload_n (cd_28 rfl) f0 ?_
      obtain ⟨r3, e4, e⟩ := jbind e
      refine ey_getf_r (cd_28 rfl) mt_28 rfl rfl rfl e4 ?_
      refine ey_iload (cd_28 rfl) f5 ?_
      obtain ⟨a5, e6, e⟩ := jbind e
      refine ey_rs (s0 := [jI x5, jR r3]) (s1 := [jI x5, jR (some a5)]) (by rw [e6]) ?_
      obtain ⟨r7, e8, e⟩ := jbind e
      refine ey_aald (cd_28 rfl) (by decide) e8 ?_
      by_cases q9 : r7 = none
      · rw [if_pos q9] at e
        refine ey_rs (s0 := [jR r7]) (s1 := [jR none]) (by rw [q9]) ?_
        refine ey_ifnonnull_n (cd_28 rfl) rfl ?_
        refine ey_aload_n (cd_28 rfl) f0 ?_
        obtain ⟨r10, e11, e⟩ := jbind e
        refine ey_getf_r (cd_28 rfl) mt_28 rfl rfl rfl e11 ?_
        refine ey_iload (cd_28 rfl) f5 ?_
        obtain ⟨n12, e13, e⟩ := jbind e
        refine ey_new (cd_28 rfl) mt_28 rfl rfl jdf_6 e13 ?_
        refine ey_dup (cd_28 rfl) rfl ?_
        obtain ⟨h14, e15, e⟩ := jbind e
        refine ey_ci (s0 := [jR (some n12.1), jR (some n12.1), jI x5, jR r10]) (s1 := [jR (some n12.1), jI x5, jR r10]) (st' := [jR (some n12.1), jI x5, jR r10]) (cd_28 rfl) mt_28 mt_94 rfl (by decide) rfl rfl (jsml_s rfl) rfl (ok_94 e15) ?_
        obtain ⟨a16, e17, e⟩ := jbind e
        refine ey_rs (s0 := [jR (some n12.1), jI x5, jR r10]) (s1 := [jR (some n12.1), jI x5, jR (some a16)]) (by rw [e17]) ?_
        obtain ⟨h18, e19, e⟩ := jbind e
        refine ey_aast (cd_28 rfl) (by decide) e19 ?_
        exact jk_28_b41 e K lv f0 f1 f2 f4 f5
      · rw [if_neg q9] at e
        obtain ⟨w32, w32e⟩ := Option.ne_none_iff_exists'.mp q9
        refine ey_rs (s0 := [jR r7]) (s1 := [jR (some w32)]) (by rw [w32e]) ?_
        refine ey_ifnonnull_s (cd_28 rfl) rfl ?_
        exact jk_28_b41 e K lv f0 f1 f2 f4 f5
theorem jk_28_l3 {L : Nat} {xs : Nat → Int32} {this : Nat} {x1 : Int} {x2 : Int} {x4 : Int} {x5 : Int} {h : jH} {x : jH} {r : mm_R} (e : jd_28_l3 this x1 x2 x4 x5 h = some x) (K : (∀ lv : jL, ey (mm_xt L xs) 1 28 59 lv [] x r)) : ∀ lv : jL, lv 0 = some (jR (some this)) → lv 1 = some (jI x1) → lv 2 = some (jI x2) → lv 4 = some (jI x4) → lv 5 = some (jI x5) → ey (mm_xt L xs) 1 28 3 lv [] h r := by
  unfold jd_28_l3 at e
  exact jlp_ok2 (P := fun s => ∀ lv : jL, lv 0 = some (jR (some this)) → lv 1 = some (jI x1) → lv 2 = some (jI x2) → lv 4 = some (jI x4) → lv 5 = some (jI s.1) → ey (mm_xt L xs) 1 28 3 lv [] s.2 r) (Q := fun x => (∀ lv : jL, ey (mm_xt L xs) 1 28 59 lv [] x r)) (fun s q hq hk => jk_28_s3 hq hk) jfu _ x e K
set_option maxRecDepth 100000 in
theorem ok_28 {L : Nat} {xs : Nat → Int32} {this : Nat} {p0 : Int} {p1 : Int} {p2 : Int} {p3 : Int} {h : jH} {o : jH} (e : jd_28 this p0 p1 p2 p3 h = some o) : mm_Runs (mm_xt L xs) 2 28 ([jR (some this), jI p0, jI p1, jI p2, jI p3].map jcv) (jaH h) (.inl (none, jaH o)) := by
  refine ey_run0 _ mt_28 (jsl_s rfl) ?_
  unfold jd_28 at e
  refine ey_iload_n (cd_28 rfl) rfl ?_
  refine ey_istore (cd_28 rfl) mt_28 rfl ?_
  obtain ⟨x33, e34, e⟩ := jbind e
  refine jk_28_l3 e34 ?_ (jup (jlf (jla 0 [jR (some this), jI p0, jI p1, jI p2, jI p3])) 5 (jI p2)) rfl rfl rfl (jup_pi (lv := (jlf (jla 0 [jR (some this), jI p0, jI p1, jI p2, jI p3]))) (j := 4) (v := jI p2) (z := p3) rfl) rfl
  intro lv 
  cases e
  exact ey_retv (cd_28 rfl) mt_28 rfl
theorem cd_30 {pc : Nat} {i : Instr × Nat} (h : mm_lk mm_c30 pc = some i) : mm_cd 30 pc = some i := h
theorem mt_30 : mm_MT 30 = (2, 2, some .int, 1, 0, []) := rfl
set_option maxRecDepth 100000 in
theorem ok_30 {L : Nat} {xs : Nat → Int32} {this : Nat} {p0 : Int} {h : jH} {o : Int} (e : jd_30 this p0 h = some o) : mm_Runs (mm_xt L xs) 1 30 ([jR (some this), jI p0].map jcv) (jaH h) (.inl (some (jcv (jI o)), jaH h)) := by
  refine ey_run0 _ mt_30 (jsl_s rfl) ?_
  unfold jd_30 at e
  refine ey_aload_n (cd_30 rfl) rfl ?_
  obtain ⟨r1, e2, e⟩ := jbind e
  refine ey_getf_r (cd_30 rfl) mt_30 rfl rfl rfl e2 ?_
  refine ey_iload_n (cd_30 rfl) rfl ?_
  obtain ⟨a3, e4, e⟩ := jbind e
  refine ey_rs (s0 := [jI p0, jR r1]) (s1 := [jI p0, jR (some a3)]) (by rw [e4]) ?_
  obtain ⟨v5, e6, e⟩ := jbind e
  refine ey_bald (cd_30 rfl) e6 ?_
  refine ey_sipush (cd_30 rfl) (by decide) ?_
  refine ey_iand (cd_30 rfl) ?_
  cases e
  exact ey_reti (cd_30 rfl) mt_30 rfl
theorem cd_32 {pc : Nat} {i : Instr × Nat} (h : mm_lk mm_c32 pc = some i) : mm_cd 32 pc = some i := h
theorem mt_32 : mm_MT 32 = (2, 3, some .int, 2, 0, []) := rfl
set_option maxRecDepth 100000 in
theorem jk_32_b102 {L : Nat} {xs : Nat → Int32} {this : Nat} {y0 : Int} {h : jH} {o : (Int × jH)} (e : jd_32_b102 this y0 h = some o) : ∀ lv : jL, ey (mm_xt L xs) 1 32 102 lv [jI y0] h (.inl (some (jcv (jI o.1)), jaH o.2)) := by
  intro lv 
  unfold jd_32_b102 at e
  cases e
  exact ey_reti (cd_32 rfl) mt_32 rfl
set_option maxRecDepth 100000 in
theorem ok_32 {L : Nat} {xs : Nat → Int32} {this : Nat} {p0 : Int} {p1 : Int} {h : jH} {o : (Int × jH)} (e : jd_32 this p0 p1 h = some o) : mm_Runs (mm_xt L xs) 2 32 ([jR (some this), jI p0, jI p1].map jcv) (jaH h) (.inl (some (jcv (jI o.1)), jaH o.2)) := by
  refine ey_run0 _ mt_32 (jsl_s rfl) ?_
  unfold jd_32 at e
  refine ey_iload_n (cd_32 rfl) rfl ?_
  refine ey_aload_n (cd_32 rfl) rfl ?_
  obtain ⟨v1, e2, e⟩ := jbind e
  refine ey_getf_i (cd_32 rfl) mt_32 rfl rfl rfl e2 ?_
  by_cases q3 : (jw p1) < (jw v1)
  · rw [if_pos q3] at e
    refine ey_clt (cd_32 rfl) rfl rfl rfl q3 ?_
    refine ey_aload_n (cd_32 rfl) rfl ?_
    refine ey_iload_n (cd_32 rfl) rfl ?_
    obtain ⟨u4, e5, e⟩ := jbind e
    obtain ⟨v6, e7, e⟩ := jbind e
    refine ey_cv (s0 := [jI p1, jR (some this)]) (s1 := []) (st' := [jI v6]) (cd_32 rfl) mt_32 mt_30 rfl rfl rfl (jck_s e5) rfl (jsml_s rfl) rfl (ok_30 e7) ?_
    refine ey_bipush (cd_32 rfl) (by decide) ?_
    by_cases q8 : (jw v6) ≤ 7
    · rw [if_pos q8] at e
      refine ey_cle (cd_32 rfl) rfl rfl (show jw 7 = 7 from by decide) q8 ?_
      refine ey_iload_n (cd_32 rfl) rfl ?_
      refine ey_iconst (cd_32 rfl) ?_
      refine ey_iadd (cd_32 rfl) ?_
      refine ey_aload_n (cd_32 rfl) rfl ?_
      obtain ⟨v9, e10, e⟩ := jbind e
      refine ey_getf_i (cd_32 rfl) mt_32 rfl rfl rfl e10 ?_
      by_cases q11 : (jw (p1 + 1)) < (jw v9)
      · rw [if_pos q11] at e
        refine ey_clt (cd_32 rfl) rfl rfl rfl q11 ?_
        refine ey_aload_n (cd_32 rfl) rfl ?_
        obtain ⟨r12, e13, e⟩ := jbind e
        refine ey_getf_r (cd_32 rfl) mt_32 rfl rfl rfl e13 ?_
        refine ey_iload_n (cd_32 rfl) rfl ?_
        refine ey_sipush (cd_32 rfl) (by decide) ?_
        refine ey_aload_n (cd_32 rfl) rfl ?_
        refine ey_iload_n (cd_32 rfl) rfl ?_
        obtain ⟨u14, e15, e⟩ := jbind e
        obtain ⟨v16, e17, e⟩ := jbind e
        refine ey_cv (s0 := [jI p1, jR (some this), jI 256, jI p0, jR r12]) (s1 := [jI 256, jI p0, jR r12]) (st' := [jI v16, jI 256, jI p0, jR r12]) (cd_32 rfl) mt_32 mt_30 rfl rfl rfl (jck_s e15) rfl (jsml_s rfl) rfl (ok_30 e17) ?_
        refine ey_imul (cd_32 rfl) ?_
        refine ey_aload_n (cd_32 rfl) rfl ?_
        refine ey_iload_n (cd_32 rfl) rfl ?_
        refine ey_iconst (cd_32 rfl) ?_
        refine ey_iadd (cd_32 rfl) ?_
        obtain ⟨u18, e19, e⟩ := jbind e
        obtain ⟨v20, e21, e⟩ := jbind e
        refine ey_cv (s0 := [jI (p1 + 1), jR (some this), jI (256 * v16), jI p0, jR r12]) (s1 := [jI (256 * v16), jI p0, jR r12]) (st' := [jI v20, jI (256 * v16), jI p0, jR r12]) (cd_32 rfl) mt_32 mt_30 rfl rfl rfl (jck_s e19) rfl (jsml_s rfl) rfl (ok_30 e21) ?_
        refine ey_iadd (cd_32 rfl) ?_
        obtain ⟨a22, e23, e⟩ := jbind e
        refine ey_rs (s0 := [jI ((256 * v16) + v20), jI p0, jR r12]) (s1 := [jI ((256 * v16) + v20), jI p0, jR (some a22)]) (by rw [e23]) ?_
        obtain ⟨h24, e25, e⟩ := jbind e
        refine ey_iast (cd_32 rfl) e25 ?_
        refine ey_aload_n (cd_32 rfl) rfl ?_
        obtain ⟨r26, e27, e⟩ := jbind e
        refine ey_getf_r (cd_32 rfl) mt_32 rfl rfl rfl e27 ?_
        refine ey_iload_n (cd_32 rfl) rfl ?_
        obtain ⟨a28, e29, e⟩ := jbind e
        refine ey_rs (s0 := [jI p0, jR r26]) (s1 := [jI p0, jR (some a28)]) (by rw [e29]) ?_
        obtain ⟨v30, e31, e⟩ := jbind e
        refine ey_iald (cd_32 rfl) e31 ?_
        refine ey_sipush (cd_32 rfl) (by decide) ?_
        by_cases q32 : (jw v30) ≤ 2000
        · rw [if_pos q32] at e
          refine ey_cle (cd_32 rfl) rfl rfl (show jw 2000 = 2000 from by decide) q32 ?_
          refine ey_iload_n (cd_32 rfl) rfl ?_
          refine ey_iconst (cd_32 rfl) ?_
          refine ey_iadd (cd_32 rfl) ?_
          refine ey_aload_n (cd_32 rfl) rfl ?_
          obtain ⟨r33, e34, e⟩ := jbind e
          refine ey_getf_r (cd_32 rfl) mt_32 rfl rfl rfl e34 ?_
          refine ey_iload_n (cd_32 rfl) rfl ?_
          obtain ⟨a35, e36, e⟩ := jbind e
          refine ey_rs (s0 := [jI p0, jR r33, jI (p1 + 2)]) (s1 := [jI p0, jR (some a35), jI (p1 + 2)]) (by rw [e36]) ?_
          obtain ⟨v37, e38, e⟩ := jbind e
          refine ey_iald (cd_32 rfl) e38 ?_
          refine ey_iadd (cd_32 rfl) ?_
          refine ey_aload_n (cd_32 rfl) rfl ?_
          obtain ⟨v39, e40, e⟩ := jbind e
          refine ey_getf_i (cd_32 rfl) mt_32 rfl rfl rfl e40 ?_
          by_cases q41 : (jw ((p1 + 2) + v37)) ≤ (jw v39)
          · rw [if_pos q41] at e
            refine ey_cle (cd_32 rfl) rfl rfl rfl q41 ?_
            refine ey_iconst (cd_32 rfl) ?_
            exact jk_32_b102 e (jlf (jla 0 [jR (some this), jI p0, jI p1])) 
          · rw [if_neg q41] at e
            refine ey_nle (cd_32 rfl) rfl rfl rfl q41 ?_
            refine ey_aload_n (cd_32 rfl) rfl ?_
            obtain ⟨v42, e43, e⟩ := jbind e
            refine ey_getf_i (cd_32 rfl) mt_32 rfl rfl rfl e43 ?_
            refine ey_goto (cd_32 rfl) rfl ?_
            exact jk_32_b102 e (jlf (jla 0 [jR (some this), jI p0, jI p1])) 
        · rw [if_neg q32] at e
          refine ey_nle (cd_32 rfl) rfl rfl (show jw 2000 = 2000 from by decide) q32 ?_
          refine ey_iload_n (cd_32 rfl) rfl ?_
          cases e
          exact ey_reti (cd_32 rfl) mt_32 rfl
      · rw [if_neg q11] at e
        refine ey_nlt (cd_32 rfl) rfl rfl rfl q11 ?_
        refine ey_aload_n (cd_32 rfl) rfl ?_
        obtain ⟨v44, e45, e⟩ := jbind e
        refine ey_getf_i (cd_32 rfl) mt_32 rfl rfl rfl e45 ?_
        cases e
        exact ey_reti (cd_32 rfl) mt_32 rfl
    · rw [if_neg q8] at e
      refine ey_nle (cd_32 rfl) rfl rfl (show jw 7 = 7 from by decide) q8 ?_
      refine ey_iload_n (cd_32 rfl) rfl ?_
      cases e
      exact ey_reti (cd_32 rfl) mt_32 rfl
  · rw [if_neg q3] at e
    refine ey_nlt (cd_32 rfl) rfl rfl rfl q3 ?_
    refine ey_aload_n (cd_32 rfl) rfl ?_
    obtain ⟨v46, e47, e⟩ := jbind e
    refine ey_getf_i (cd_32 rfl) mt_32 rfl rfl rfl e47 ?_
    cases e
    exact ey_reti (cd_32 rfl) mt_32 rfl
theorem cd_33 {pc : Nat} {i : Instr × Nat} (h : mm_lk mm_c33 pc = some i) : mm_cd 33 pc = some i := h
theorem mt_33 : mm_MT 33 = (2, 7, some .boolean, 1, 0, []) := rfl
set_option maxRecDepth 100000 in
theorem jk_33_b20 {L : Nat} {xs : Nat → Int32} {this : Nat}  {h : jH} {o : Int} (e : jd_33_b20 this  h = some o) : ∀ lv : jL, ey (mm_xt L xs) 1 33 20 lv [] h (.inl (some (jcv (jI o)), jaH h)) := by
  intro lv 
  unfold jd_33_b20 at e
  refine ey_iconst (cd_33 rfl) ?_
  cases e
  exact ey_retz (cd_33 rfl) mt_33 rfl (Or.inl rfl)
set_option maxRecDepth 100000 in
theorem jk_33_b47 {L : Nat} {xs : Nat → Int32} {this : Nat}  {h : jH} {o : Int} (e : jd_33_b47 this  h = some o) : ∀ lv : jL, ey (mm_xt L xs) 1 33 47 lv [] h (.inl (some (jcv (jI o)), jaH h)) := by
  intro lv 
  unfold jd_33_b47 at e
  refine ey_iconst (cd_33 rfl) ?_
  cases e
  exact ey_retz (cd_33 rfl) mt_33 rfl (Or.inl rfl)
set_option maxRecDepth 100000 in
theorem jk_33_b146 {L : Nat} {xs : Nat → Int32} {this : Nat} {x3 : Int} {x6 : Int} {y0 : Int} {h : jH} {o : ((Int × Int) ⊕ Int)} {r : mm_R} (e : jd_33_b146 this x3 x6 y0 h = some o) (K : jsm (fun s => (∀ lv : jL, lv 0 = some (jR (some this)) → lv 3 = some (jI x3) → lv 5 = some (jI s.1) → lv 6 = some (jI s.2) → ey (mm_xt L xs) 1 33 115 lv [] h r)) (fun x => (∀ lv : jL, lv 5 = some (jI x) → ey (mm_xt L xs) 1 33 154 lv [] h r)) o) : ∀ lv : jL, lv 0 = some (jR (some this)) → lv 3 = some (jI x3) → lv 6 = some (jI x6) → ey (mm_xt L xs) 1 33 146 lv [jI y0] h r := by
  intro lv f0 f3 f6
  unfold jd_33_b146 at e
  refine ey_istore (cd_33 rfl) mt_33 rfl ?_
  refine ey_iinc (cd_33 rfl) mt_33 rfl f6 ?_
  refine ey_goto (cd_33 rfl) rfl ?_
  cases e
  exact K (jup (jup lv 5 (jI y0)) 6 (jI (x6 + 1))) f0 f3 (jup_pi (lv := (jup lv 5 (jI y0))) (j := 5) (v := jI (x6 + 1)) (z := y0) rfl) rfl
set_option maxRecDepth 100000 in
theorem jk_33_s115 {L : Nat} {xs : Nat → Int32} {this : Nat} {x3 : Int} {x5 : Int} {x6 : Int} {h : jH} {o : ((Int × Int) ⊕ Int)} {r : mm_R} (e : jd_33_s115 this x3 x5 x6 h = some o) (K : jsm (fun s => (∀ lv : jL, lv 0 = some (jR (some this)) → lv 3 = some (jI x3) → lv 5 = some (jI s.1) → lv 6 = some (jI s.2) → ey (mm_xt L xs) 1 33 115 lv [] h r)) (fun x => (∀ lv : jL, lv 5 = some (jI x) → ey (mm_xt L xs) 1 33 154 lv [] h r)) o) : ∀ lv : jL, lv 0 = some (jR (some this)) → lv 3 = some (jI x3) → lv 5 = some (jI x5) → lv 6 = some (jI x6) → ey (mm_xt L xs) 1 33 115 lv [] h r := by
  intro lv f0 f3 f5 f6
  unfold jd_33_s115 at e
  refine ey_iload (cd_33 rfl) f6 ?_
  refine ey_aload_n (cd_33 rfl) f0 ?_
  obtain ⟨r34, e35, e⟩ := jbind e
  refine ey_getf_r (cd_33 rfl) mt_33 rfl rfl rfl e35 ?_
  refine ey_iload_n (cd_33 rfl) f3 ?_
  obtain ⟨a36, e37, e⟩ := jbind e
  refine ey_rs (s0 := [jI x3, jR r34, jI x6]) (s1 := [jI x3, jR (some a36), jI x6]) (by rw [e37]) ?_
  obtain ⟨v38, e39, e⟩ := jbind e
  refine ey_iald (cd_33 rfl) e39 ?_
  by_cases q40 : (jw v38) ≤ (jw x6)
  · rw [if_pos q40] at e
    refine ey_cge (cd_33 rfl) rfl rfl rfl q40 ?_
    cases e
    exact K lv f5
  · rw [if_neg q40] at e
    refine ey_nge (cd_33 rfl) rfl rfl rfl q40 ?_
    refine ey_iload (cd_33 rfl) f5 ?_
    by_cases q41 : (jw x5) = 0
    · rw [if_pos q41] at e
      refine ey_yne (cd_33 rfl) rfl rfl (fun w => w q41) ?_
      refine ey_aload_n (cd_33 rfl) f0 ?_
      obtain ⟨r42, e43, e⟩ := jbind e
      refine ey_getf_r (cd_33 rfl) mt_33 rfl rfl rfl e43 ?_
      refine ey_iload (cd_33 rfl) f6 ?_
      obtain ⟨a44, e45, e⟩ := jbind e
      refine ey_rs (s0 := [jI x6, jR r42]) (s1 := [jI x6, jR (some a44)]) (by rw [e45]) ?_
      obtain ⟨v46, e47, e⟩ := jbind e
      refine ey_iald (cd_33 rfl) e47 ?_
      have K48 : ∀ lv : jL, lv 0 = some (jR (some this)) → lv 3 = some (jI x3) → lv 6 = some (jI x6) → ey (mm_xt L xs) 1 33 146 lv [jI (if 0 ≤ (jw v46) then 0 else 1)] h r := by
        intro lv g0 g3 g6
        exact jk_33_b146 e K lv g0 g3 g6
      by_cases q49 : 0 ≤ (jw v46)
      · refine ey_zge (cd_33 rfl) rfl rfl q49 ?_
        refine ey_iconst (cd_33 rfl) ?_
        exact ey_rs (s0 := [jI 0]) (s1 := [jI (if 0 ≤ (jw v46) then 0 else 1)]) (by rw [show ((if 0 ≤ (jw v46) then 0 else 1) : Int) = 0 from (if_pos q49)]) (K48 lv f0 f3 f6)
      · refine ey_yge (cd_33 rfl) rfl rfl q49 ?_
        refine ey_iconst (cd_33 rfl) ?_
        refine ey_goto (cd_33 rfl) rfl ?_
        exact ey_rs (s0 := [jI 1]) (s1 := [jI (if 0 ≤ (jw v46) then 0 else 1)]) (by rw [show ((if 0 ≤ (jw v46) then 0 else 1) : Int) = 1 from (if_neg q49)]) (K48 lv f0 f3 f6)
    · rw [if_neg q41] at e
      refine ey_zne (cd_33 rfl) rfl rfl q41 ?_
      refine ey_iconst (cd_33 rfl) ?_
      refine ey_goto (cd_33 rfl) rfl ?_
      exact jk_33_b146 e K lv f0 f3 f6
theorem jk_33_l115 {L : Nat} {xs : Nat → Int32} {this : Nat} {x3 : Int} {x5 : Int} {x6 : Int} {h : jH} {x : Int} {r : mm_R} (e : jd_33_l115 this x3 x5 x6 h = some x) (K : (∀ lv : jL, lv 5 = some (jI x) → ey (mm_xt L xs) 1 33 154 lv [] h r)) : ∀ lv : jL, lv 0 = some (jR (some this)) → lv 3 = some (jI x3) → lv 5 = some (jI x5) → lv 6 = some (jI x6) → ey (mm_xt L xs) 1 33 115 lv [] h r := by
  unfold jd_33_l115 at e
  exact jlp_ok2 (P := fun s => ∀ lv : jL, lv 0 = some (jR (some this)) → lv 3 = some (jI x3) → lv 5 = some (jI s.1) → lv 6 = some (jI s.2) → ey (mm_xt L xs) 1 33 115 lv [] h r) (Q := fun x => (∀ lv : jL, lv 5 = some (jI x) → ey (mm_xt L xs) 1 33 154 lv [] h r)) (fun s q hq hk => jk_33_s115 hq hk) jfu _ x e K
set_option maxRecDepth 100000 in
theorem jk_33_b85 {L : Nat} {xs : Nat → Int32} {this : Nat} {y0 : Int} {h : jH} {o : Int} (e : jd_33_b85 this y0 h = some o) : ∀ lv : jL, ey (mm_xt L xs) 1 33 85 lv [jI y0] h (.inl (some (jcv (jI o)), jaH h)) := by
  intro lv 
  unfold jd_33_b85 at e
  obtain ⟨u55, e56, e⟩ := jbind e
  cases e
  exact ey_retz (cd_33 rfl) mt_33 rfl (jbc_s e56)
set_option maxRecDepth 100000 in
theorem jk_33_b49 {L : Nat} {xs : Nat → Int32} {this : Nat} {x1 : Int} {x2 : Int} {h : jH} {o : Int} (e : jd_33_b49 this x1 x2 h = some o) : ∀ lv : jL, lv 0 = some (jR (some this)) → lv 1 = some (jI x1) → lv 2 = some (jI x2) → ey (mm_xt L xs) 1 33 49 lv [] h (.inl (some (jcv (jI o)), jaH h)) := by
  intro lv f0 f1 f2
  unfold jd_33_b49 at e
  refine ey_aload_n (cd_33 rfl) f0 ?_
  refine ey_iload_n (cd_33 rfl) f1 ?_
  refine ey_iconst (cd_33 rfl) ?_
  obtain ⟨u18, e19, e⟩ := jbind e
  obtain ⟨v20, e21, e⟩ := jbind e
  refine ey_cv (s0 := [jI 0, jI x1, jR (some this)]) (s1 := []) (st' := [jI v20]) (cd_33 rfl) mt_33 mt_35 rfl rfl rfl (jck_s e19) rfl (jsml_s rfl) rfl (ok_35 e21) ?_
  refine ey_istore_n (cd_33 rfl) mt_33 rfl ?_
  refine ey_iload_n (cd_33 rfl) (jup_pi (lv := lv) (j := 2) (v := jI v20) (z := x2) f2) ?_
  refine ey_iconst (cd_33 rfl) ?_
  by_cases q22 : (jw x2) = 2
  · rw [if_pos q22] at e
    refine ey_ceq (cd_33 rfl) rfl rfl (show jw 2 = 2 from by decide) q22 ?_
    refine ey_aload_n (cd_33 rfl) f0 ?_
    refine ey_iload_n (cd_33 rfl) rfl ?_
    refine ey_iconst (cd_33 rfl) ?_
    obtain ⟨u23, e24, e⟩ := jbind e
    obtain ⟨v25, e26, e⟩ := jbind e
    refine ey_cv (s0 := [jI 0, jI v20, jR (some this)]) (s1 := []) (st' := [jI v25]) (cd_33 rfl) mt_33 mt_35 rfl rfl rfl (jck_s e24) rfl (jsml_s rfl) rfl (ok_35 e26) ?_
    refine ey_istore (cd_33 rfl) mt_33 rfl ?_
    refine ey_iload (cd_33 rfl) rfl ?_
    by_cases q27 : 0 ≤ (jw v25)
    · rw [if_pos q27] at e
      refine ey_zge (cd_33 rfl) rfl rfl q27 ?_
      refine ey_iconst (cd_33 rfl) ?_
      refine ey_istore (cd_33 rfl) mt_33 rfl ?_
      refine ey_aload_n (cd_33 rfl) f0 ?_
      obtain ⟨r28, e29, e⟩ := jbind e
      refine ey_getf_r (cd_33 rfl) mt_33 rfl rfl rfl e29 ?_
      refine ey_iload (cd_33 rfl) (jup_pi (lv := (jup (jup lv 3 (jI v20)) 4 (jI v25))) (j := 4) (v := jI 0) (z := v25) rfl) ?_
      obtain ⟨a30, e31, e⟩ := jbind e
      refine ey_rs (s0 := [jI v25, jR r28]) (s1 := [jI v25, jR (some a30)]) (by rw [e31]) ?_
      obtain ⟨v32, e33, e⟩ := jbind e
      refine ey_iald (cd_33 rfl) e33 ?_
      refine ey_iconst (cd_33 rfl) ?_
      refine ey_iadd (cd_33 rfl) ?_
      refine ey_istore (cd_33 rfl) mt_33 rfl ?_
      obtain ⟨x50, e51, e⟩ := jbind e
      refine jk_33_l115 e51 ?_ (jup (jup (jup (jup lv 3 (jI v20)) 4 (jI v25)) 5 (jI 0)) 6 (jI (v32 + 1))) f0 (jup_o rfl (jup_o rfl (jup_pi (lv := (jup lv 3 (jI v20))) (j := 3) (v := jI v25) (z := v20) rfl))) (jup_pi (lv := (jup (jup (jup lv 3 (jI v20)) 4 (jI v25)) 5 (jI 0))) (j := 5) (v := jI (v32 + 1)) (z := 0) rfl) rfl
      intro lv g5
      refine ey_iload (cd_33 rfl) g5 ?_
      obtain ⟨u52, e53, e⟩ := jbind e
      cases e
      exact ey_retz (cd_33 rfl) mt_33 rfl (jbc_s e53)
    · rw [if_neg q27] at e
      refine ey_yge (cd_33 rfl) rfl rfl q27 ?_
      refine ey_iconst (cd_33 rfl) ?_
      cases e
      exact ey_retz (cd_33 rfl) mt_33 rfl (Or.inl rfl)
  · rw [if_neg q22] at e
    refine ey_neq (cd_33 rfl) rfl rfl (show jw 2 = 2 from by decide) q22 ?_
    refine ey_iload_n (cd_33 rfl) rfl ?_
    by_cases q54 : (jw v20) < 0
    · rw [if_pos q54] at e
      refine ey_zlt (cd_33 rfl) rfl rfl q54 ?_
      refine ey_iconst (cd_33 rfl) ?_
      refine ey_goto (cd_33 rfl) rfl ?_
      exact jk_33_b85 e (jup lv 3 (jI v20)) 
    · rw [if_neg q54] at e
      refine ey_ylt (cd_33 rfl) rfl rfl q54 ?_
      refine ey_aload_n (cd_33 rfl) f0 ?_
      obtain ⟨r57, e58, e⟩ := jbind e
      refine ey_getf_r (cd_33 rfl) mt_33 rfl rfl rfl e58 ?_
      refine ey_iload_n (cd_33 rfl) rfl ?_
      obtain ⟨a59, e60, e⟩ := jbind e
      refine ey_rs (s0 := [jI v20, jR r57]) (s1 := [jI v20, jR (some a59)]) (by rw [e60]) ?_
      obtain ⟨v61, e62, e⟩ := jbind e
      refine ey_iald (cd_33 rfl) e62 ?_
      refine ey_aload_n (cd_33 rfl) f0 ?_
      obtain ⟨v63, e64, e⟩ := jbind e
      refine ey_getf_i (cd_33 rfl) mt_33 rfl rfl rfl e64 ?_
      refine ey_iconst (cd_33 rfl) ?_
      refine ey_isub (cd_33 rfl) ?_
      have K65 : ∀ lv : jL, ey (mm_xt L xs) 1 33 85 lv [jI (if (jw (v63 - 1)) ≤ (jw v61) then 0 else 1)] h (.inl (some (jcv (jI o)), jaH h)) := by
        intro lv 
        exact jk_33_b85 e lv 
      by_cases q66 : (jw (v63 - 1)) ≤ (jw v61)
      · refine ey_cge (cd_33 rfl) rfl rfl rfl q66 ?_
        refine ey_iconst (cd_33 rfl) ?_
        exact ey_rs (s0 := [jI 0]) (s1 := [jI (if (jw (v63 - 1)) ≤ (jw v61) then 0 else 1)]) (by rw [show ((if (jw (v63 - 1)) ≤ (jw v61) then 0 else 1) : Int) = 0 from (if_pos q66)]) (K65 (jup lv 3 (jI v20)) )
      · refine ey_nge (cd_33 rfl) rfl rfl rfl q66 ?_
        refine ey_iconst (cd_33 rfl) ?_
        refine ey_goto (cd_33 rfl) rfl ?_
        exact ey_rs (s0 := [jI 1]) (s1 := [jI (if (jw (v63 - 1)) ≤ (jw v61) then 0 else 1)]) (by rw [show ((if (jw (v63 - 1)) ≤ (jw v61) then 0 else 1) : Int) = 1 from (if_neg q66)]) (K65 (jup lv 3 (jI v20)) )
set_option maxRecDepth 100000 in
theorem jk_33_b34 {L : Nat} {xs : Nat → Int32} {this : Nat} {x1 : Int} {x2 : Int} {h : jH} {o : Int} (e : jd_33_b34 this x1 x2 h = some o) : ∀ lv : jL, lv 0 = some (jR (some this)) → lv 1 = some (jI x1) → lv 2 = some (jI x2) → ey (mm_xt L xs) 1 33 34 lv [] h (.inl (some (jcv (jI o)), jaH h)) := by
  intro lv f0 f1 f2
  unfold jd_33_b34 at e
  refine ey_aload_n (cd_33 rfl) f0 ?_
  obtain ⟨v14, e15, e⟩ := jbind e
  refine ey_getf_i (cd_33 rfl) mt_33 rfl rfl rfl e15 ?_
  refine ey_iconst (cd_33 rfl) ?_
  by_cases q16 : (jw v14) = 2
  · rw [if_pos q16] at e
    refine ey_nne (cd_33 rfl) rfl rfl (show jw 2 = 2 from by decide) (fun w => w q16) ?_
    refine ey_iload_n (cd_33 rfl) f2 ?_
    refine ey_iconst (cd_33 rfl) ?_
    by_cases q17 : (jw x2) = 2
    · rw [if_pos q17] at e
      refine ey_nne (cd_33 rfl) rfl rfl (show jw 2 = 2 from by decide) (fun w => w q17) ?_
      exact jk_33_b47 e lv 
    · rw [if_neg q17] at e
      refine ey_cne (cd_33 rfl) rfl rfl (show jw 2 = 2 from by decide) q17 ?_
      exact jk_33_b49 e lv f0 f1 f2
  · rw [if_neg q16] at e
    refine ey_cne (cd_33 rfl) rfl rfl (show jw 2 = 2 from by decide) q16 ?_
    exact jk_33_b49 e lv f0 f1 f2
set_option maxRecDepth 100000 in
theorem jk_33_b22 {L : Nat} {xs : Nat → Int32} {this : Nat} {x1 : Int} {x2 : Int} {h : jH} {o : Int} (e : jd_33_b22 this x1 x2 h = some o) : ∀ lv : jL, lv 0 = some (jR (some this)) → lv 1 = some (jI x1) → lv 2 = some (jI x2) → ey (mm_xt L xs) 1 33 22 lv [] h (.inl (some (jcv (jI o)), jaH h)) := by
  intro lv f0 f1 f2
  unfold jd_33_b22 at e
  refine ey_aload_n (cd_33 rfl) f0 ?_
  obtain ⟨v10, e11, e⟩ := jbind e
  refine ey_getf_i (cd_33 rfl) mt_33 rfl rfl rfl e11 ?_
  refine ey_iconst (cd_33 rfl) ?_
  by_cases q12 : (jw v10) = 1
  · rw [if_pos q12] at e
    refine ey_nne (cd_33 rfl) rfl rfl (show jw 1 = 1 from by decide) (fun w => w q12) ?_
    refine ey_iload_n (cd_33 rfl) f2 ?_
    by_cases q13 : (jw x2) = 0
    · rw [if_pos q13] at e
      refine ey_yne (cd_33 rfl) rfl rfl (fun w => w q13) ?_
      exact jk_33_b34 e lv f0 f1 f2
    · rw [if_neg q13] at e
      refine ey_zne (cd_33 rfl) rfl rfl q13 ?_
      exact jk_33_b47 e lv 
  · rw [if_neg q12] at e
    refine ey_cne (cd_33 rfl) rfl rfl (show jw 1 = 1 from by decide) q12 ?_
    exact jk_33_b34 e lv f0 f1 f2
set_option maxRecDepth 100000 in
theorem ok_33 {L : Nat} {xs : Nat → Int32} {this : Nat} {p0 : Int} {h : jH} {o : Int} (e : jd_33 this p0 h = some o) : mm_Runs (mm_xt L xs) 2 33 ([jR (some this), jI p0].map jcv) (jaH h) (.inl (some (jcv (jI o)), jaH h)) := by
  refine ey_run0 _ mt_33 (jsl_s rfl) ?_
  unfold jd_33 at e
  refine ey_aload_n (cd_33 rfl) rfl ?_
  obtain ⟨r1, e2, e⟩ := jbind e
  refine ey_getf_r (cd_33 rfl) mt_33 rfl rfl rfl e2 ?_
  refine ey_iload_n (cd_33 rfl) rfl ?_
  obtain ⟨a3, e4, e⟩ := jbind e
  refine ey_rs (s0 := [jI p0, jR r1]) (s1 := [jI p0, jR (some a3)]) (by rw [e4]) ?_
  obtain ⟨v5, e6, e⟩ := jbind e
  refine ey_iald (cd_33 rfl) e6 ?_
  refine ey_istore_n (cd_33 rfl) mt_33 rfl ?_
  refine ey_iload_n (cd_33 rfl) rfl ?_
  refine ey_iconst (cd_33 rfl) ?_
  by_cases q7 : 2 < (jw v5)
  · rw [if_pos q7] at e
    refine ey_cgt (cd_33 rfl) rfl rfl (show jw 2 = 2 from by decide) q7 ?_
    exact jk_33_b20 e (jup (jlf (jla 0 [jR (some this), jI p0])) 2 (jI v5)) 
  · rw [if_neg q7] at e
    refine ey_ngt (cd_33 rfl) rfl rfl (show jw 2 = 2 from by decide) q7 ?_
    refine ey_iload_n (cd_33 rfl) (jup_pi (lv := (jlf (jla 0 [jR (some this), jI p0]))) (j := 1) (v := jI v5) (z := p0) rfl) ?_
    by_cases q8 : (jw p0) = 0
    · rw [if_pos q8] at e
      refine ey_yne (cd_33 rfl) rfl rfl (fun w => w q8) ?_
      refine ey_iload_n (cd_33 rfl) rfl ?_
      by_cases q9 : (jw v5) = 0
      · rw [if_pos q9] at e
        refine ey_zeq (cd_33 rfl) rfl rfl q9 ?_
        exact jk_33_b22 e (jup (jlf (jla 0 [jR (some this), jI p0])) 2 (jI v5)) rfl (jup_pi (lv := (jlf (jla 0 [jR (some this), jI p0]))) (j := 1) (v := jI v5) (z := p0) rfl) rfl
      · rw [if_neg q9] at e
        refine ey_yeq (cd_33 rfl) rfl rfl q9 ?_
        exact jk_33_b20 e (jup (jlf (jla 0 [jR (some this), jI p0])) 2 (jI v5)) 
    · rw [if_neg q8] at e
      refine ey_zne (cd_33 rfl) rfl rfl q8 ?_
      exact jk_33_b22 e (jup (jlf (jla 0 [jR (some this), jI p0])) 2 (jI v5)) rfl (jup_pi (lv := (jlf (jla 0 [jR (some this), jI p0]))) (j := 1) (v := jI v5) (z := p0) rfl) rfl
theorem cd_34 {pc : Nat} {i : Instr × Nat} (h : mm_lk mm_c34 pc = some i) : mm_cd 34 pc = some i := h
theorem mt_34 : mm_MT 34 = (2, 5, some .boolean, 1, 0, []) := rfl
set_option maxRecDepth 100000 in
theorem jk_34_b24 {L : Nat} {xs : Nat → Int32} {this : Nat}  {h : jH} {o : Int} (e : jd_34_b24 this  h = some o) : ∀ lv : jL, ey (mm_xt L xs) 1 34 24 lv [] h (.inl (some (jcv (jI o)), jaH h)) := by
  intro lv 
  unfold jd_34_b24 at e
  refine ey_iconst (cd_34 rfl) ?_
  cases e
  exact ey_retz (cd_34 rfl) mt_34 rfl (Or.inl rfl)
set_option maxRecDepth 100000 in
theorem jk_34_b102 {L : Nat} {xs : Nat → Int32} {this : Nat} {y0 : Int} {h : jH} {o : Int} (e : jd_34_b102 this y0 h = some o) : ∀ lv : jL, ey (mm_xt L xs) 1 34 102 lv [jI y0] h (.inl (some (jcv (jI o)), jaH h)) := by
  intro lv 
  unfold jd_34_b102 at e
  obtain ⟨u33, e34, e⟩ := jbind e
  cases e
  exact ey_retz (cd_34 rfl) mt_34 rfl (jbc_s e34)
set_option maxRecDepth 100000 in
theorem jk_34_b101 {L : Nat} {xs : Nat → Int32} {this : Nat}  {h : jH} {o : Int} (e : jd_34_b101 this  h = some o) : ∀ lv : jL, ey (mm_xt L xs) 1 34 101 lv [] h (.inl (some (jcv (jI o)), jaH h)) := by
  intro lv 
  unfold jd_34_b101 at e
  refine ey_iconst (cd_34 rfl) ?_
  exact jk_34_b102 e lv 
set_option maxRecDepth 100000 in
theorem jk_34_b62 {L : Nat} {xs : Nat → Int32} {this : Nat} {y0 : Int} {h : jH} {o : Int} (e : jd_34_b62 this y0 h = some o) : ∀ lv : jL, ey (mm_xt L xs) 1 34 62 lv [jI y0] h (.inl (some (jcv (jI o)), jaH h)) := by
  intro lv 
  unfold jd_34_b62 at e
  obtain ⟨u51, e52, e⟩ := jbind e
  cases e
  exact ey_retz (cd_34 rfl) mt_34 rfl (jbc_s e52)
set_option maxRecDepth 100000 in
theorem ok_34 {L : Nat} {xs : Nat → Int32} {this : Nat} {p0 : Int} {h : jH} {o : Int} (e : jd_34 this p0 h = some o) : mm_Runs (mm_xt L xs) 2 34 ([jR (some this), jI p0].map jcv) (jaH h) (.inl (some (jcv (jI o)), jaH h)) := by
  refine ey_run0 _ mt_34 (jsl_s rfl) ?_
  unfold jd_34 at e
  refine ey_aload_n (cd_34 rfl) rfl ?_
  obtain ⟨r1, e2, e⟩ := jbind e
  refine ey_getf_r (cd_34 rfl) mt_34 rfl rfl rfl e2 ?_
  refine ey_iload_n (cd_34 rfl) rfl ?_
  obtain ⟨a3, e4, e⟩ := jbind e
  refine ey_rs (s0 := [jI p0, jR r1]) (s1 := [jI p0, jR (some a3)]) (by rw [e4]) ?_
  obtain ⟨v5, e6, e⟩ := jbind e
  refine ey_iald (cd_34 rfl) e6 ?_
  refine ey_istore_n (cd_34 rfl) mt_34 rfl ?_
  refine ey_iload_n (cd_34 rfl) rfl ?_
  refine ey_aload_n (cd_34 rfl) rfl ?_
  obtain ⟨v7, e8, e⟩ := jbind e
  refine ey_getf_i (cd_34 rfl) mt_34 rfl rfl rfl e8 ?_
  by_cases q9 : (jw v7) ≤ (jw v5)
  · rw [if_pos q9] at e
    refine ey_cge (cd_34 rfl) rfl rfl rfl q9 ?_
    exact jk_34_b24 e (jup (jlf (jla 0 [jR (some this), jI p0])) 2 (jI v5)) 
  · rw [if_neg q9] at e
    refine ey_nge (cd_34 rfl) rfl rfl rfl q9 ?_
    refine ey_aload_n (cd_34 rfl) rfl ?_
    obtain ⟨r10, e11, e⟩ := jbind e
    refine ey_getf_r (cd_34 rfl) mt_34 rfl rfl rfl e11 ?_
    refine ey_iload_n (cd_34 rfl) rfl ?_
    obtain ⟨a12, e13, e⟩ := jbind e
    refine ey_rs (s0 := [jI v5, jR r10]) (s1 := [jI v5, jR (some a12)]) (by rw [e13]) ?_
    obtain ⟨v14, e15, e⟩ := jbind e
    refine ey_iald (cd_34 rfl) e15 ?_
    by_cases q16 : (jw v14) < 0
    · rw [if_pos q16] at e
      refine ey_zlt (cd_34 rfl) rfl rfl q16 ?_
      refine ey_aload_n (cd_34 rfl) rfl ?_
      refine ey_iload_n (cd_34 rfl) (jup_pi (lv := (jlf (jla 0 [jR (some this), jI p0]))) (j := 1) (v := jI v5) (z := p0) rfl) ?_
      refine ey_iconst (cd_34 rfl) ?_
      obtain ⟨u17, e18, e⟩ := jbind e
      obtain ⟨v19, e20, e⟩ := jbind e
      refine ey_cv (s0 := [jI 0, jI p0, jR (some this)]) (s1 := []) (st' := [jI v19]) (cd_34 rfl) mt_34 mt_35 rfl rfl rfl (jck_s e18) rfl (jsml_s rfl) rfl (ok_35 e20) ?_
      refine ey_istore_n (cd_34 rfl) mt_34 rfl ?_
      refine ey_aload_n (cd_34 rfl) rfl ?_
      obtain ⟨r21, e22, e⟩ := jbind e
      refine ey_getf_r (cd_34 rfl) mt_34 rfl rfl rfl e22 ?_
      refine ey_iload_n (cd_34 rfl) (jup_o rfl (jup_pi (lv := (jlf (jla 0 [jR (some this), jI p0]))) (j := 1) (v := jI v5) (z := p0) rfl)) ?_
      obtain ⟨a23, e24, e⟩ := jbind e
      refine ey_rs (s0 := [jI p0, jR r21]) (s1 := [jI p0, jR (some a23)]) (by rw [e24]) ?_
      obtain ⟨v25, e26, e⟩ := jbind e
      refine ey_iald (cd_34 rfl) e26 ?_
      refine ey_iconst (cd_34 rfl) ?_
      by_cases q27 : (jw v25) = 2
      · rw [if_pos q27] at e
        refine ey_ceq (cd_34 rfl) rfl rfl (show jw 2 = 2 from by decide) q27 ?_
        refine ey_aload_n (cd_34 rfl) rfl ?_
        refine ey_iload_n (cd_34 rfl) rfl ?_
        refine ey_iconst (cd_34 rfl) ?_
        obtain ⟨u28, e29, e⟩ := jbind e
        obtain ⟨v30, e31, e⟩ := jbind e
        refine ey_cv (s0 := [jI 0, jI v19, jR (some this)]) (s1 := []) (st' := [jI v30]) (cd_34 rfl) mt_34 mt_35 rfl rfl rfl (jck_s e29) rfl (jsml_s rfl) rfl (ok_35 e31) ?_
        refine ey_istore (cd_34 rfl) mt_34 rfl ?_
        refine ey_iload (cd_34 rfl) rfl ?_
        by_cases q32 : (jw v30) < 0
        · rw [if_pos q32] at e
          refine ey_zlt (cd_34 rfl) rfl rfl q32 ?_
          exact jk_34_b101 e (jup (jup (jup (jlf (jla 0 [jR (some this), jI p0])) 2 (jI v5)) 3 (jI v19)) 4 (jI v30)) 
        · rw [if_neg q32] at e
          refine ey_ylt (cd_34 rfl) rfl rfl q32 ?_
          refine ey_iload_n (cd_34 rfl) (jup_o rfl (jup_pi (lv := (jup (jlf (jla 0 [jR (some this), jI p0])) 2 (jI v5))) (j := 2) (v := jI v19) (z := v5) rfl)) ?_
          refine ey_aload_n (cd_34 rfl) rfl ?_
          obtain ⟨r35, e36, e⟩ := jbind e
          refine ey_getf_r (cd_34 rfl) mt_34 rfl rfl rfl e36 ?_
          refine ey_iload (cd_34 rfl) rfl ?_
          obtain ⟨a37, e38, e⟩ := jbind e
          refine ey_rs (s0 := [jI v30, jR r35, jI v5]) (s1 := [jI v30, jR (some a37), jI v5]) (by rw [e38]) ?_
          obtain ⟨v39, e40, e⟩ := jbind e
          refine ey_iald (cd_34 rfl) e40 ?_
          by_cases q41 : (jw v5) ≤ (jw v39)
          · rw [if_pos q41] at e
            refine ey_cle (cd_34 rfl) rfl rfl rfl q41 ?_
            exact jk_34_b101 e (jup (jup (jup (jlf (jla 0 [jR (some this), jI p0])) 2 (jI v5)) 3 (jI v19)) 4 (jI v30)) 
          · rw [if_neg q41] at e
            refine ey_nle (cd_34 rfl) rfl rfl rfl q41 ?_
            refine ey_iload_n (cd_34 rfl) (jup_o rfl (jup_pi (lv := (jup (jlf (jla 0 [jR (some this), jI p0])) 2 (jI v5))) (j := 2) (v := jI v19) (z := v5) rfl)) ?_
            refine ey_aload_n (cd_34 rfl) rfl ?_
            obtain ⟨r42, e43, e⟩ := jbind e
            refine ey_getf_r (cd_34 rfl) mt_34 rfl rfl rfl e43 ?_
            refine ey_iload_n (cd_34 rfl) (jup_pi (lv := (jup (jup (jlf (jla 0 [jR (some this), jI p0])) 2 (jI v5)) 3 (jI v19))) (j := 3) (v := jI v30) (z := v19) rfl) ?_
            obtain ⟨a44, e45, e⟩ := jbind e
            refine ey_rs (s0 := [jI v19, jR r42, jI v5]) (s1 := [jI v19, jR (some a44), jI v5]) (by rw [e45]) ?_
            obtain ⟨v46, e47, e⟩ := jbind e
            refine ey_iald (cd_34 rfl) e47 ?_
            have K48 : ∀ lv : jL, ey (mm_xt L xs) 1 34 102 lv [jI (if (jw v46) ≤ (jw v5) then 0 else 1)] h (.inl (some (jcv (jI o)), jaH h)) := by
              intro lv 
              exact jk_34_b102 e lv 
            by_cases q49 : (jw v46) ≤ (jw v5)
            · refine ey_cge (cd_34 rfl) rfl rfl rfl q49 ?_
              refine ey_iconst (cd_34 rfl) ?_
              exact ey_rs (s0 := [jI 0]) (s1 := [jI (if (jw v46) ≤ (jw v5) then 0 else 1)]) (by rw [show ((if (jw v46) ≤ (jw v5) then 0 else 1) : Int) = 0 from (if_pos q49)]) (K48 (jup (jup (jup (jlf (jla 0 [jR (some this), jI p0])) 2 (jI v5)) 3 (jI v19)) 4 (jI v30)) )
            · refine ey_nge (cd_34 rfl) rfl rfl rfl q49 ?_
              refine ey_iconst (cd_34 rfl) ?_
              refine ey_goto (cd_34 rfl) rfl ?_
              exact ey_rs (s0 := [jI 1]) (s1 := [jI (if (jw v46) ≤ (jw v5) then 0 else 1)]) (by rw [show ((if (jw v46) ≤ (jw v5) then 0 else 1) : Int) = 1 from (if_neg q49)]) (K48 (jup (jup (jup (jlf (jla 0 [jR (some this), jI p0])) 2 (jI v5)) 3 (jI v19)) 4 (jI v30)) )
      · rw [if_neg q27] at e
        refine ey_neq (cd_34 rfl) rfl rfl (show jw 2 = 2 from by decide) q27 ?_
        refine ey_iload_n (cd_34 rfl) rfl ?_
        by_cases q50 : (jw v19) < 0
        · rw [if_pos q50] at e
          refine ey_zlt (cd_34 rfl) rfl rfl q50 ?_
          refine ey_iconst (cd_34 rfl) ?_
          refine ey_goto (cd_34 rfl) rfl ?_
          exact jk_34_b62 e (jup (jup (jlf (jla 0 [jR (some this), jI p0])) 2 (jI v5)) 3 (jI v19)) 
        · rw [if_neg q50] at e
          refine ey_ylt (cd_34 rfl) rfl rfl q50 ?_
          refine ey_iload_n (cd_34 rfl) (jup_pi (lv := (jup (jlf (jla 0 [jR (some this), jI p0])) 2 (jI v5))) (j := 2) (v := jI v19) (z := v5) rfl) ?_
          refine ey_aload_n (cd_34 rfl) rfl ?_
          obtain ⟨r53, e54, e⟩ := jbind e
          refine ey_getf_r (cd_34 rfl) mt_34 rfl rfl rfl e54 ?_
          refine ey_iload_n (cd_34 rfl) rfl ?_
          obtain ⟨a55, e56, e⟩ := jbind e
          refine ey_rs (s0 := [jI v19, jR r53, jI v5]) (s1 := [jI v19, jR (some a55), jI v5]) (by rw [e56]) ?_
          obtain ⟨v57, e58, e⟩ := jbind e
          refine ey_iald (cd_34 rfl) e58 ?_
          have K59 : ∀ lv : jL, ey (mm_xt L xs) 1 34 62 lv [jI (if (jw v5) ≤ (jw v57) then 0 else 1)] h (.inl (some (jcv (jI o)), jaH h)) := by
            intro lv 
            exact jk_34_b62 e lv 
          by_cases q60 : (jw v5) ≤ (jw v57)
          · refine ey_cle (cd_34 rfl) rfl rfl rfl q60 ?_
            refine ey_iconst (cd_34 rfl) ?_
            exact ey_rs (s0 := [jI 0]) (s1 := [jI (if (jw v5) ≤ (jw v57) then 0 else 1)]) (by rw [show ((if (jw v5) ≤ (jw v57) then 0 else 1) : Int) = 0 from (if_pos q60)]) (K59 (jup (jup (jlf (jla 0 [jR (some this), jI p0])) 2 (jI v5)) 3 (jI v19)) )
          · refine ey_nle (cd_34 rfl) rfl rfl rfl q60 ?_
            refine ey_iconst (cd_34 rfl) ?_
            refine ey_goto (cd_34 rfl) rfl ?_
            exact ey_rs (s0 := [jI 1]) (s1 := [jI (if (jw v5) ≤ (jw v57) then 0 else 1)]) (by rw [show ((if (jw v5) ≤ (jw v57) then 0 else 1) : Int) = 1 from (if_neg q60)]) (K59 (jup (jup (jlf (jla 0 [jR (some this), jI p0])) 2 (jI v5)) 3 (jI v19)) )
    · rw [if_neg q16] at e
      refine ey_ylt (cd_34 rfl) rfl rfl q16 ?_
      exact jk_34_b24 e (jup (jlf (jla 0 [jR (some this), jI p0])) 2 (jI v5)) 
theorem cd_31 {pc : Nat} {i : Instr × Nat} (h : mm_lk mm_c31 pc = some i) : mm_cd 31 pc = some i := h
theorem mt_31 : mm_MT 31 = (2, 3, some .int, 2, 0, []) := rfl
set_option maxRecDepth 100000 in
theorem jk_31_b161 {L : Nat} {xs : Nat → Int32} {this : Nat} {x2 : Int} {h : jH} {o : (Int × jH)} (e : jd_31_b161 this x2 h = some o) : ∀ lv : jL, lv 2 = some (jI x2) → ey (mm_xt L xs) 2 31 161 lv [] h (.inl (some (jcv (jI o.1)), jaH o.2)) := by
  intro lv f2
  unfold jd_31_b161 at e
  refine ey_iload_n (cd_31 rfl) f2 ?_
  refine ey_iconst (cd_31 rfl) ?_
  refine ey_iadd (cd_31 rfl) ?_
  cases e
  exact ey_reti (cd_31 rfl) mt_31 rfl
set_option maxRecDepth 100000 in
theorem jk_31_b165 {L : Nat} {xs : Nat → Int32} {this : Nat} {x1 : Int} {x2 : Int} {h : jH} {o : (Int × jH)} (e : jd_31_b165 this x1 x2 h = some o) : ∀ lv : jL, lv 0 = some (jR (some this)) → lv 1 = some (jI x1) → lv 2 = some (jI x2) → ey (mm_xt L xs) 2 31 165 lv [] h (.inl (some (jcv (jI o.1)), jaH o.2)) := by
  intro lv f0 f1 f2
  unfold jd_31_b165 at e
  refine ey_aload_n (cd_31 rfl) f0 ?_
  refine ey_iload_n (cd_31 rfl) f1 ?_
  refine ey_iload_n (cd_31 rfl) f2 ?_
  refine ey_iconst (cd_31 rfl) ?_
  refine ey_iadd (cd_31 rfl) ?_
  obtain ⟨u85, e86, e⟩ := jbind e
  obtain ⟨q87, e88, e⟩ := jbind e
  refine ey_cv (s0 := [jI (x2 + 3), jI x1, jR (some this)]) (s1 := []) (st' := [jI q87.1]) (cd_31 rfl) mt_31 mt_32 rfl rfl rfl (jck_s e86) rfl (jsml_s rfl) rfl (ok_32 e88) ?_
  cases e
  exact ey_reti (cd_31 rfl) mt_31 rfl
set_option maxRecDepth 100000 in
theorem ok_31 {L : Nat} {xs : Nat → Int32} {this : Nat} {p0 : Int} {p1 : Int} {h : jH} {o : (Int × jH)} (e : jd_31 this p0 p1 h = some o) : mm_Runs (mm_xt L xs) 3 31 ([jR (some this), jI p0, jI p1].map jcv) (jaH h) (.inl (some (jcv (jI o.1)), jaH o.2)) := by
  refine ey_run0 _ mt_31 (jsl_s rfl) ?_
  unfold jd_31 at e
  refine ey_aload_n (cd_31 rfl) rfl ?_
  obtain ⟨r1, e2, e⟩ := jbind e
  refine ey_getf_r (cd_31 rfl) mt_31 rfl rfl rfl e2 ?_
  refine ey_iload_n (cd_31 rfl) rfl ?_
  refine ey_iload_n (cd_31 rfl) rfl ?_
  obtain ⟨a3, e4, e⟩ := jbind e
  refine ey_rs (s0 := [jI p1, jI p0, jR r1]) (s1 := [jI p1, jI p0, jR (some a3)]) (by rw [e4]) ?_
  obtain ⟨h5, e6, e⟩ := jbind e
  refine ey_iast (cd_31 rfl) e6 ?_
  refine ey_iload_n (cd_31 rfl) rfl ?_
  refine ey_aload_n (cd_31 rfl) rfl ?_
  obtain ⟨v7, e8, e⟩ := jbind e
  refine ey_getf_i (cd_31 rfl) mt_31 rfl rfl rfl e8 ?_
  by_cases q9 : (jw p1) < (jw v7)
  · rw [if_pos q9] at e
    refine ey_clt (cd_31 rfl) rfl rfl rfl q9 ?_
    refine ey_aload_n (cd_31 rfl) rfl ?_
    obtain ⟨r10, e11, e⟩ := jbind e
    refine ey_getf_r (cd_31 rfl) mt_31 rfl rfl rfl e11 ?_
    refine ey_iload_n (cd_31 rfl) rfl ?_
    refine ey_aload_n (cd_31 rfl) rfl ?_
    refine ey_iload_n (cd_31 rfl) rfl ?_
    obtain ⟨u12, e13, e⟩ := jbind e
    obtain ⟨v14, e15, e⟩ := jbind e
    refine ey_cv (s0 := [jI p1, jR (some this), jI p0, jR r10]) (s1 := [jI p0, jR r10]) (st' := [jI v14, jI p0, jR r10]) (cd_31 rfl) mt_31 mt_30 rfl rfl rfl (jck_s e13) rfl (jsml_s rfl) rfl (mm_Runs.up (d := 1) (by decide) (ok_30 e15)) ?_
    obtain ⟨a16, e17, e⟩ := jbind e
    refine ey_rs (s0 := [jI v14, jI p0, jR r10]) (s1 := [jI v14, jI p0, jR (some a16)]) (by rw [e17]) ?_
    obtain ⟨h18, e19, e⟩ := jbind e
    refine ey_iast (cd_31 rfl) e19 ?_
    refine ey_aload_n (cd_31 rfl) rfl ?_
    refine ey_iload_n (cd_31 rfl) rfl ?_
    obtain ⟨u20, e21, e⟩ := jbind e
    obtain ⟨v22, e23, e⟩ := jbind e
    refine ey_cv (s0 := [jI p0, jR (some this)]) (s1 := []) (st' := [jI v22]) (cd_31 rfl) mt_31 mt_33 rfl rfl rfl (jck_s e21) rfl (jsml_s rfl) rfl (ok_33 e23) ?_
    by_cases q24 : (jw v22) = 0
    · rw [if_pos q24] at e
      refine ey_yne (cd_31 rfl) rfl rfl (fun w => w q24) ?_
      refine ey_iload_n (cd_31 rfl) rfl ?_
      cases e
      exact ey_reti (cd_31 rfl) mt_31 rfl
    · rw [if_neg q24] at e
      refine ey_zne (cd_31 rfl) rfl rfl q24 ?_
      refine ey_iload_n (cd_31 rfl) rfl ?_
      refine ey_iconst (cd_31 rfl) ?_
      refine ey_iadd (cd_31 rfl) ?_
      refine ey_aload_n (cd_31 rfl) rfl ?_
      obtain ⟨v25, e26, e⟩ := jbind e
      refine ey_getf_i (cd_31 rfl) mt_31 rfl rfl rfl e26 ?_
      by_cases q27 : (jw (p1 + 1)) < (jw v25)
      · rw [if_pos q27] at e
        refine ey_clt (cd_31 rfl) rfl rfl rfl q27 ?_
        refine ey_aload_n (cd_31 rfl) rfl ?_
        obtain ⟨r28, e29, e⟩ := jbind e
        refine ey_getf_r (cd_31 rfl) mt_31 rfl rfl rfl e29 ?_
        refine ey_iload_n (cd_31 rfl) rfl ?_
        refine ey_aload_n (cd_31 rfl) rfl ?_
        refine ey_iload_n (cd_31 rfl) rfl ?_
        refine ey_iconst (cd_31 rfl) ?_
        refine ey_iadd (cd_31 rfl) ?_
        obtain ⟨u30, e31, e⟩ := jbind e
        obtain ⟨v32, e33, e⟩ := jbind e
        refine ey_cv (s0 := [jI (p1 + 1), jR (some this), jI p0, jR r28]) (s1 := [jI p0, jR r28]) (st' := [jI v32, jI p0, jR r28]) (cd_31 rfl) mt_31 mt_30 rfl rfl rfl (jck_s e31) rfl (jsml_s rfl) rfl (mm_Runs.up (d := 1) (by decide) (ok_30 e33)) ?_
        obtain ⟨a34, e35, e⟩ := jbind e
        refine ey_rs (s0 := [jI v32, jI p0, jR r28]) (s1 := [jI v32, jI p0, jR (some a34)]) (by rw [e35]) ?_
        obtain ⟨h36, e37, e⟩ := jbind e
        refine ey_iast (cd_31 rfl) e37 ?_
        refine ey_aload_n (cd_31 rfl) rfl ?_
        refine ey_iload_n (cd_31 rfl) rfl ?_
        obtain ⟨u38, e39, e⟩ := jbind e
        obtain ⟨v40, e41, e⟩ := jbind e
        refine ey_cv (s0 := [jI p0, jR (some this)]) (s1 := []) (st' := [jI v40]) (cd_31 rfl) mt_31 mt_34 rfl rfl rfl (jck_s e39) rfl (jsml_s rfl) rfl (ok_34 e41) ?_
        by_cases q42 : (jw v40) = 0
        · rw [if_pos q42] at e
          refine ey_yne (cd_31 rfl) rfl rfl (fun w => w q42) ?_
          refine ey_iload_n (cd_31 rfl) rfl ?_
          refine ey_iconst (cd_31 rfl) ?_
          refine ey_iadd (cd_31 rfl) ?_
          cases e
          exact ey_reti (cd_31 rfl) mt_31 rfl
        · rw [if_neg q42] at e
          refine ey_zne (cd_31 rfl) rfl rfl q42 ?_
          refine ey_aload_n (cd_31 rfl) rfl ?_
          obtain ⟨r43, e44, e⟩ := jbind e
          refine ey_getf_r (cd_31 rfl) mt_31 rfl rfl rfl e44 ?_
          refine ey_aload_n (cd_31 rfl) rfl ?_
          obtain ⟨r45, e46, e⟩ := jbind e
          refine ey_getf_r (cd_31 rfl) mt_31 rfl rfl rfl e46 ?_
          refine ey_iload_n (cd_31 rfl) rfl ?_
          obtain ⟨a47, e48, e⟩ := jbind e
          refine ey_rs (s0 := [jI p0, jR r45, jR r43]) (s1 := [jI p0, jR (some a47), jR r43]) (by rw [e48]) ?_
          obtain ⟨v49, e50, e⟩ := jbind e
          refine ey_iald (cd_31 rfl) e50 ?_
          refine ey_iload_n (cd_31 rfl) rfl ?_
          obtain ⟨a51, e52, e⟩ := jbind e
          refine ey_rs (s0 := [jI p0, jI v49, jR r43]) (s1 := [jI p0, jI v49, jR (some a51)]) (by rw [e52]) ?_
          obtain ⟨h53, e54, e⟩ := jbind e
          refine ey_iast (cd_31 rfl) e54 ?_
          refine ey_iload_n (cd_31 rfl) rfl ?_
          refine ey_iconst (cd_31 rfl) ?_
          refine ey_iadd (cd_31 rfl) ?_
          refine ey_aload_n (cd_31 rfl) rfl ?_
          obtain ⟨v55, e56, e⟩ := jbind e
          refine ey_getf_i (cd_31 rfl) mt_31 rfl rfl rfl e56 ?_
          by_cases q57 : (jw (p1 + 2)) < (jw v55)
          · rw [if_pos q57] at e
            refine ey_clt (cd_31 rfl) rfl rfl rfl q57 ?_
            refine ey_aload_n (cd_31 rfl) rfl ?_
            obtain ⟨r58, e59, e⟩ := jbind e
            refine ey_getf_r (cd_31 rfl) mt_31 rfl rfl rfl e59 ?_
            refine ey_iload_n (cd_31 rfl) rfl ?_
            refine ey_aload_n (cd_31 rfl) rfl ?_
            refine ey_iload_n (cd_31 rfl) rfl ?_
            refine ey_iconst (cd_31 rfl) ?_
            refine ey_iadd (cd_31 rfl) ?_
            obtain ⟨u60, e61, e⟩ := jbind e
            obtain ⟨v62, e63, e⟩ := jbind e
            refine ey_cv (s0 := [jI (p1 + 2), jR (some this), jI p0, jR r58]) (s1 := [jI p0, jR r58]) (st' := [jI v62, jI p0, jR r58]) (cd_31 rfl) mt_31 mt_30 rfl rfl rfl (jck_s e61) rfl (jsml_s rfl) rfl (mm_Runs.up (d := 1) (by decide) (ok_30 e63)) ?_
            obtain ⟨a64, e65, e⟩ := jbind e
            refine ey_rs (s0 := [jI v62, jI p0, jR r58]) (s1 := [jI v62, jI p0, jR (some a64)]) (by rw [e65]) ?_
            obtain ⟨h66, e67, e⟩ := jbind e
            refine ey_iast (cd_31 rfl) e67 ?_
            refine ey_aload_n (cd_31 rfl) rfl ?_
            obtain ⟨v68, e69, e⟩ := jbind e
            refine ey_getf_i (cd_31 rfl) mt_31 rfl rfl rfl e69 ?_
            by_cases q70 : (jw v68) = 0
            · rw [if_pos q70] at e
              refine ey_yne (cd_31 rfl) rfl rfl (fun w => w q70) ?_
              refine ey_aload_n (cd_31 rfl) rfl ?_
              obtain ⟨r71, e72, e⟩ := jbind e
              refine ey_getf_r (cd_31 rfl) mt_31 rfl rfl rfl e72 ?_
              refine ey_iload_n (cd_31 rfl) rfl ?_
              obtain ⟨a73, e74, e⟩ := jbind e
              refine ey_rs (s0 := [jI p0, jR r71]) (s1 := [jI p0, jR (some a73)]) (by rw [e74]) ?_
              obtain ⟨v75, e76, e⟩ := jbind e
              refine ey_iald (cd_31 rfl) e76 ?_
              refine ey_iconst (cd_31 rfl) ?_
              by_cases q77 : (jw v75) < 1
              · rw [if_pos q77] at e
                refine ey_clt (cd_31 rfl) rfl rfl (show jw 1 = 1 from by decide) q77 ?_
                exact jk_31_b161 e (jlf (jla 0 [jR (some this), jI p0, jI p1])) rfl
              · rw [if_neg q77] at e
                refine ey_nlt (cd_31 rfl) rfl rfl (show jw 1 = 1 from by decide) q77 ?_
                refine ey_aload_n (cd_31 rfl) rfl ?_
                obtain ⟨r78, e79, e⟩ := jbind e
                refine ey_getf_r (cd_31 rfl) mt_31 rfl rfl rfl e79 ?_
                refine ey_iload_n (cd_31 rfl) rfl ?_
                obtain ⟨a80, e81, e⟩ := jbind e
                refine ey_rs (s0 := [jI p0, jR r78]) (s1 := [jI p0, jR (some a80)]) (by rw [e81]) ?_
                obtain ⟨v82, e83, e⟩ := jbind e
                refine ey_iald (cd_31 rfl) e83 ?_
                refine ey_bipush (cd_31 rfl) (by decide) ?_
                by_cases q84 : (jw v82) ≤ 31
                · rw [if_pos q84] at e
                  refine ey_cle (cd_31 rfl) rfl rfl (show jw 31 = 31 from by decide) q84 ?_
                  exact jk_31_b165 e (jlf (jla 0 [jR (some this), jI p0, jI p1])) rfl rfl rfl
                · rw [if_neg q84] at e
                  refine ey_nle (cd_31 rfl) rfl rfl (show jw 31 = 31 from by decide) q84 ?_
                  refine ey_goto (cd_31 rfl) rfl ?_
                  exact jk_31_b161 e (jlf (jla 0 [jR (some this), jI p0, jI p1])) rfl
            · rw [if_neg q70] at e
              refine ey_zne (cd_31 rfl) rfl rfl q70 ?_
              refine ey_aload_n (cd_31 rfl) rfl ?_
              obtain ⟨r89, e90, e⟩ := jbind e
              refine ey_getf_r (cd_31 rfl) mt_31 rfl rfl rfl e90 ?_
              refine ey_iload_n (cd_31 rfl) rfl ?_
              obtain ⟨a91, e92, e⟩ := jbind e
              refine ey_rs (s0 := [jI p0, jR r89]) (s1 := [jI p0, jR (some a91)]) (by rw [e92]) ?_
              obtain ⟨v93, e94, e⟩ := jbind e
              refine ey_iald (cd_31 rfl) e94 ?_
              by_cases q95 : (jw v93) = 0
              · rw [if_pos q95] at e
                refine ey_zeq (cd_31 rfl) rfl rfl q95 ?_
                exact jk_31_b165 e (jlf (jla 0 [jR (some this), jI p0, jI p1])) rfl rfl rfl
              · rw [if_neg q95] at e
                refine ey_yeq (cd_31 rfl) rfl rfl q95 ?_
                exact jk_31_b161 e (jlf (jla 0 [jR (some this), jI p0, jI p1])) rfl
          · rw [if_neg q57] at e
            refine ey_nlt (cd_31 rfl) rfl rfl rfl q57 ?_
            refine ey_aload_n (cd_31 rfl) rfl ?_
            obtain ⟨v96, e97, e⟩ := jbind e
            refine ey_getf_i (cd_31 rfl) mt_31 rfl rfl rfl e97 ?_
            cases e
            exact ey_reti (cd_31 rfl) mt_31 rfl
      · rw [if_neg q27] at e
        refine ey_nlt (cd_31 rfl) rfl rfl rfl q27 ?_
        refine ey_aload_n (cd_31 rfl) rfl ?_
        obtain ⟨v98, e99, e⟩ := jbind e
        refine ey_getf_i (cd_31 rfl) mt_31 rfl rfl rfl e99 ?_
        cases e
        exact ey_reti (cd_31 rfl) mt_31 rfl
  · rw [if_neg q9] at e
    refine ey_nlt (cd_31 rfl) rfl rfl rfl q9 ?_
    refine ey_aload_n (cd_31 rfl) rfl ?_
    obtain ⟨v100, e101, e⟩ := jbind e
    refine ey_getf_i (cd_31 rfl) mt_31 rfl rfl rfl e101 ?_
    cases e
    exact ey_reti (cd_31 rfl) mt_31 rfl
theorem cd_29 {pc : Nat} {i : Instr × Nat} (h : mm_lk mm_c29 pc = some i) : mm_cd 29 pc = some i := h
theorem mt_29 : mm_MT 29 = (2, 4, some .int, 0, 0, []) := rfl
set_option maxRecDepth 100000 in
theorem jk_29_s2 {L : Nat} {xs : Nat → Int32} {this : Nat} {x1 : Int} {h : jH} {o : (Int ⊕ (Unit ⊕ (Int ⊕ Unit)))} {r : mm_R} (e : jd_29_s2 this x1 h = some o) (K : jsm (fun s => (∀ lv : jL, lv 0 = some (jR (some this)) → lv 1 = some (jI s) → ey (mm_xt L xs) 3 29 2 lv [] h r)) (fun x => (jsm (fun y => (∀ lv : jL, lv 0 = some (jR (some this)) → ey (mm_xt L xs) 3 29 16 lv [] h r)) (fun z => (jsm (fun y => (∀ lv : jL, lv 1 = some (jI y) → ey (mm_xt L xs) 3 29 47 lv [] h r)) (fun z => (∀ lv : jL, lv 0 = some (jR (some this)) → ey (mm_xt L xs) 3 29 55 lv [] h r)) z)) x)) o) : ∀ lv : jL, lv 0 = some (jR (some this)) → lv 1 = some (jI x1) → ey (mm_xt L xs) 3 29 2 lv [] h r := by
  intro lv f0 f1
  unfold jd_29_s2 at e
  refine ey_iload_n (cd_29 rfl) f1 ?_
  refine ey_bipush (cd_29 rfl) (by decide) ?_
  by_cases q1 : 7 ≤ (jw x1)
  · rw [if_pos q1] at e
    refine ey_cge (cd_29 rfl) rfl rfl (show jw 7 = 7 from by decide) q1 ?_
    cases e
    exact K lv f0
  · rw [if_neg q1] at e
    refine ey_nge (cd_29 rfl) rfl rfl (show jw 7 = 7 from by decide) q1 ?_
    refine ey_iload_n (cd_29 rfl) f1 ?_
    refine ey_aload_n (cd_29 rfl) f0 ?_
    obtain ⟨v2, e3, e⟩ := jbind e
    refine ey_getf_i (cd_29 rfl) mt_29 rfl rfl rfl e3 ?_
    by_cases q4 : (jw x1) < (jw v2)
    · rw [if_pos q4] at e
      refine ey_clt (cd_29 rfl) rfl rfl rfl q4 ?_
      refine ey_aload_n (cd_29 rfl) f0 ?_
      refine ey_iload_n (cd_29 rfl) f1 ?_
      obtain ⟨u5, e6, e⟩ := jbind e
      obtain ⟨v7, e8, e⟩ := jbind e
      refine ey_cv (s0 := [jI x1, jR (some this)]) (s1 := []) (st' := [jI v7]) (cd_29 rfl) mt_29 mt_30 rfl rfl rfl (jck_s e6) rfl (jsml_s rfl) rfl (mm_Runs.up (d := 1) (by decide) (ok_30 e8)) ?_
      refine ey_gs (cd_29 rfl) mt_29 rfl rfl ?_
      refine ey_iload_n (cd_29 rfl) f1 ?_
      obtain ⟨v9, e10, e⟩ := jbind e
      refine ey_iast_x (cd_29 rfl) (by decide) e10 ?_
      by_cases q11 : (jw v7) < (jw v9)
      · rw [if_pos q11] at e
        refine ey_clt (cd_29 rfl) rfl rfl rfl q11 ?_
        cases e
        exact K lv f1
      · rw [if_neg q11] at e
        refine ey_nlt (cd_29 rfl) rfl rfl rfl q11 ?_
        refine ey_aload_n (cd_29 rfl) f0 ?_
        refine ey_iload_n (cd_29 rfl) f1 ?_
        obtain ⟨u12, e13, e⟩ := jbind e
        obtain ⟨v14, e15, e⟩ := jbind e
        refine ey_cv (s0 := [jI x1, jR (some this)]) (s1 := []) (st' := [jI v14]) (cd_29 rfl) mt_29 mt_30 rfl rfl rfl (jck_s e13) rfl (jsml_s rfl) rfl (mm_Runs.up (d := 1) (by decide) (ok_30 e15)) ?_
        refine ey_gs (cd_29 rfl) mt_29 rfl rfl ?_
        refine ey_iload_n (cd_29 rfl) f1 ?_
        obtain ⟨v16, e17, e⟩ := jbind e
        refine ey_iast_x (cd_29 rfl) (by decide) e17 ?_
        by_cases q18 : (jw v14) ≤ (jw v16)
        · rw [if_pos q18] at e
          refine ey_cle (cd_29 rfl) rfl rfl rfl q18 ?_
          refine ey_iinc (cd_29 rfl) mt_29 rfl f1 ?_
          refine ey_goto (cd_29 rfl) rfl ?_
          cases e
          exact K (jup lv 1 (jI (x1 + 1))) (jup_pr (lv := lv) (j := 0) (v := jI (x1 + 1)) (z := (some this)) f0) rfl
        · rw [if_neg q18] at e
          refine ey_nle (cd_29 rfl) rfl rfl rfl q18 ?_
          cases e
          exact K lv f1
    · rw [if_neg q4] at e
      refine ey_nlt (cd_29 rfl) rfl rfl rfl q4 ?_
      cases e
      exact K lv f0
theorem jk_29_l2 {L : Nat} {xs : Nat → Int32} {this : Nat} {x1 : Int} {h : jH} {x : (Unit ⊕ (Int ⊕ Unit))} {r : mm_R} (e : jd_29_l2 this x1 h = some x) (K : (jsm (fun y => (∀ lv : jL, lv 0 = some (jR (some this)) → ey (mm_xt L xs) 3 29 16 lv [] h r)) (fun z => (jsm (fun y => (∀ lv : jL, lv 1 = some (jI y) → ey (mm_xt L xs) 3 29 47 lv [] h r)) (fun z => (∀ lv : jL, lv 0 = some (jR (some this)) → ey (mm_xt L xs) 3 29 55 lv [] h r)) z)) x)) : ∀ lv : jL, lv 0 = some (jR (some this)) → lv 1 = some (jI x1) → ey (mm_xt L xs) 3 29 2 lv [] h r := by
  unfold jd_29_l2 at e
  exact jlp_ok2 (P := fun s => ∀ lv : jL, lv 0 = some (jR (some this)) → lv 1 = some (jI s) → ey (mm_xt L xs) 3 29 2 lv [] h r) (Q := fun x => (jsm (fun y => (∀ lv : jL, lv 0 = some (jR (some this)) → ey (mm_xt L xs) 3 29 16 lv [] h r)) (fun z => (jsm (fun y => (∀ lv : jL, lv 1 = some (jI y) → ey (mm_xt L xs) 3 29 47 lv [] h r)) (fun z => (∀ lv : jL, lv 0 = some (jR (some this)) → ey (mm_xt L xs) 3 29 55 lv [] h r)) z)) x)) (fun s q hq hk => jk_29_s2 hq hk) jfu _ x e K
set_option maxRecDepth 100000 in
theorem jk_29_s109 {L : Nat} {xs : Nat → Int32} {this : Nat} {x1 : Int} {h : jH} {o : ((Int × jH) ⊕ jH)} {r : mm_R} (e : jd_29_s109 this x1 h = some o) (K : jsm (fun s => (∀ lv : jL, lv 0 = some (jR (some this)) → lv 1 = some (jI s.1) → ey (mm_xt L xs) 3 29 109 lv [] s.2 r)) (fun x => (∀ lv : jL, lv 0 = some (jR (some this)) → ey (mm_xt L xs) 3 29 128 lv [] x r)) o) : ∀ lv : jL, lv 0 = some (jR (some this)) → lv 1 = some (jI x1) → ey (mm_xt L xs) 3 29 109 lv [] h r := by
  intro lv f0 f1
  unfold jd_29_s109 at e
  refine ey_iload_n (cd_29 rfl) f1 ?_
  refine ey_bipush (cd_29 rfl) (by decide) ?_
  by_cases q57 : 12 ≤ (jw x1)
  · rw [if_pos q57] at e
    refine ey_cge (cd_29 rfl) rfl rfl (show jw 12 = 12 from by decide) q57 ?_
    cases e
    exact K lv f0
  · rw [if_neg q57] at e
    refine ey_nge (cd_29 rfl) rfl rfl (show jw 12 = 12 from by decide) q57 ?_
    refine ey_aload_n (cd_29 rfl) f0 ?_
    obtain ⟨r58, e59, e⟩ := jbind e
    refine ey_getf_r (cd_29 rfl) mt_29 rfl rfl rfl e59 ?_
    refine ey_iload_n (cd_29 rfl) f1 ?_
    refine ey_iconst (cd_29 rfl) ?_
    obtain ⟨a60, e61, e⟩ := jbind e
    refine ey_rs (s0 := [jI (-1), jI x1, jR r58]) (s1 := [jI (-1), jI x1, jR (some a60)]) (by rw [e61]) ?_
    obtain ⟨h62, e63, e⟩ := jbind e
    refine ey_iast (cd_29 rfl) e63 ?_
    refine ey_iinc (cd_29 rfl) mt_29 rfl f1 ?_
    refine ey_goto (cd_29 rfl) rfl ?_
    cases e
    exact K (jup lv 1 (jI (x1 + 1))) (jup_pr (lv := lv) (j := 0) (v := jI (x1 + 1)) (z := (some this)) f0) rfl
theorem jk_29_l109 {L : Nat} {xs : Nat → Int32} {this : Nat} {x1 : Int} {h : jH} {x : jH} {r : mm_R} (e : jd_29_l109 this x1 h = some x) (K : (∀ lv : jL, lv 0 = some (jR (some this)) → ey (mm_xt L xs) 3 29 128 lv [] x r)) : ∀ lv : jL, lv 0 = some (jR (some this)) → lv 1 = some (jI x1) → ey (mm_xt L xs) 3 29 109 lv [] h r := by
  unfold jd_29_l109 at e
  exact jlp_ok2 (P := fun s => ∀ lv : jL, lv 0 = some (jR (some this)) → lv 1 = some (jI s.1) → ey (mm_xt L xs) 3 29 109 lv [] s.2 r) (Q := fun x => (∀ lv : jL, lv 0 = some (jR (some this)) → ey (mm_xt L xs) 3 29 128 lv [] x r)) (fun s q hq hk => jk_29_s109 hq hk) jfu _ x e K
set_option maxRecDepth 100000 in
theorem jk_29_s133 {L : Nat} {xs : Nat → Int32} {this : Nat} {x1 : Int} {x2 : Int} {h : jH} {o : ((Int × Int × jH) ⊕ ((Int × jH) ⊕ (Int × jH)))} {r : mm_R} (e : jd_29_s133 this x1 x2 h = some o) (K : jsm (fun s => (∀ lv : jL, lv 0 = some (jR (some this)) → lv 1 = some (jI s.1) → lv 2 = some (jI s.2.1) → ey (mm_xt L xs) 3 29 133 lv [] s.2.2 r)) (fun x => (jsm (fun y => (∀ lv : jL, lv 3 = some (jI y.1) → ey (mm_xt L xs) 3 29 152 lv [] y.2 r)) (fun z => (∀ lv : jL, lv 0 = some (jR (some this)) → lv 1 = some (jI z.1) → ey (mm_xt L xs) 3 29 171 lv [] z.2 r)) x)) o) : ∀ lv : jL, lv 0 = some (jR (some this)) → lv 1 = some (jI x1) → lv 2 = some (jI x2) → ey (mm_xt L xs) 3 29 133 lv [] h r := by
  intro lv f0 f1 f2
  unfold jd_29_s133 at e
  refine ey_iload_n (cd_29 rfl) f2 ?_
  refine ey_aload_n (cd_29 rfl) f0 ?_
  obtain ⟨v66, e67, e⟩ := jbind e
  refine ey_getf_i (cd_29 rfl) mt_29 rfl rfl rfl e67 ?_
  by_cases q68 : (jw v66) ≤ (jw x2)
  · rw [if_pos q68] at e
    refine ey_cge (cd_29 rfl) rfl rfl rfl q68 ?_
    cases e
    exact K lv f0 f1
  · rw [if_neg q68] at e
    refine ey_nge (cd_29 rfl) rfl rfl rfl q68 ?_
    refine ey_aload_n (cd_29 rfl) f0 ?_
    refine ey_iload_n (cd_29 rfl) f2 ?_
    refine ey_iload_n (cd_29 rfl) f1 ?_
    obtain ⟨u69, e70, e⟩ := jbind e
    obtain ⟨q71, e72, e⟩ := jbind e
    refine ey_cv (s0 := [jI x1, jI x2, jR (some this)]) (s1 := []) (st' := [jI q71.1]) (cd_29 rfl) mt_29 mt_31 rfl rfl rfl (jck_s e70) rfl (jsml_s rfl) rfl (ok_31 e72) ?_
    refine ey_istore_n (cd_29 rfl) mt_29 rfl ?_
    refine ey_iload_n (cd_29 rfl) rfl ?_
    by_cases q73 : (jw q71.1) < 0
    · rw [if_pos q73] at e
      refine ey_zlt (cd_29 rfl) rfl rfl q73 ?_
      refine ey_iload_n (cd_29 rfl) f1 ?_
      refine ey_iconst (cd_29 rfl) ?_
      refine ey_aload_n (cd_29 rfl) f0 ?_
      obtain ⟨r74, e75, e⟩ := jbind e
      refine ey_getf_r (cd_29 rfl) mt_29 rfl rfl rfl e75 ?_
      refine ey_iload_n (cd_29 rfl) (jup_pi (lv := lv) (j := 2) (v := jI q71.1) (z := x2) f2) ?_
      obtain ⟨a76, e77, e⟩ := jbind e
      refine ey_rs (s0 := [jI x2, jR r74, jI 5, jI x1]) (s1 := [jI x2, jR (some a76), jI 5, jI x1]) (by rw [e77]) ?_
      obtain ⟨v78, e79, e⟩ := jbind e
      refine ey_iald (cd_29 rfl) e79 ?_
      refine ey_iadd (cd_29 rfl) ?_
      refine ey_iadd (cd_29 rfl) ?_
      refine ey_istore_n (cd_29 rfl) mt_29 rfl ?_
      refine ey_iinc (cd_29 rfl) mt_29 rfl (jup_o rfl (jup_pi (lv := lv) (j := 2) (v := jI q71.1) (z := x2) f2)) ?_
      refine ey_goto (cd_29 rfl) rfl ?_
      cases e
      exact K (jup (jup (jup lv 3 (jI q71.1)) 1 (jI (x1 + (5 + v78)))) 2 (jI (x2 + 1))) (jup_o rfl (jup_pr (lv := (jup lv 3 (jI q71.1))) (j := 0) (v := jI (x1 + (5 + v78))) (z := (some this)) f0)) (jup_pi (lv := (jup (jup lv 3 (jI q71.1)) 1 (jI (x1 + (5 + v78))))) (j := 1) (v := jI (x2 + 1)) (z := (x1 + (5 + v78))) rfl) rfl
    · rw [if_neg q73] at e
      refine ey_ylt (cd_29 rfl) rfl rfl q73 ?_
      cases e
      exact K (jup lv 3 (jI q71.1)) rfl
theorem jk_29_l133 {L : Nat} {xs : Nat → Int32} {this : Nat} {x1 : Int} {x2 : Int} {h : jH} {x : ((Int × jH) ⊕ (Int × jH))} {r : mm_R} (e : jd_29_l133 this x1 x2 h = some x) (K : (jsm (fun y => (∀ lv : jL, lv 3 = some (jI y.1) → ey (mm_xt L xs) 3 29 152 lv [] y.2 r)) (fun z => (∀ lv : jL, lv 0 = some (jR (some this)) → lv 1 = some (jI z.1) → ey (mm_xt L xs) 3 29 171 lv [] z.2 r)) x)) : ∀ lv : jL, lv 0 = some (jR (some this)) → lv 1 = some (jI x1) → lv 2 = some (jI x2) → ey (mm_xt L xs) 3 29 133 lv [] h r := by
  unfold jd_29_l133 at e
  exact jlp_ok2 (P := fun s => ∀ lv : jL, lv 0 = some (jR (some this)) → lv 1 = some (jI s.1) → lv 2 = some (jI s.2.1) → ey (mm_xt L xs) 3 29 133 lv [] s.2.2 r) (Q := fun x => (jsm (fun y => (∀ lv : jL, lv 3 = some (jI y.1) → ey (mm_xt L xs) 3 29 152 lv [] y.2 r)) (fun z => (∀ lv : jL, lv 0 = some (jR (some this)) → lv 1 = some (jI z.1) → ey (mm_xt L xs) 3 29 171 lv [] z.2 r)) x)) (fun s q hq hk => jk_29_s133 hq hk) jfu _ x e K
set_option maxRecDepth 100000 in
theorem ok_29 {L : Nat} {xs : Nat → Int32} {this : Nat}  {h : jH} {o : (Int × jH)} (e : jd_29 this  h = some o) : mm_Runs (mm_xt L xs) 4 29 ([jR (some this)].map jcv) (jaH h) (.inl (some (jcv (jI o.1)), jaH o.2)) := by
  refine ey_run0 _ mt_29 (jsl_s rfl) ?_
  unfold jd_29 at e
  refine ey_iconst (cd_29 rfl) ?_
  refine ey_istore_n (cd_29 rfl) mt_29 rfl ?_
  obtain ⟨x19, e20, e⟩ := jbind e
  refine jk_29_l2 e20 ?_ (jup (jlf (jla 0 [jR (some this)])) 1 (jI 0)) (jup_pr (lv := (jlf (jla 0 [jR (some this)]))) (j := 0) (v := jI 0) (z := (some this)) rfl) rfl
  cases x19 with
  | inl y21 =>
    replace e : (((jgi h this 2 6).bind fun v23 => some (v23, h)) : Option (Int × jH)) = some o := e
    intro lv g0
    refine ey_aload_n (cd_29 rfl) g0 ?_
    obtain ⟨v23, e24, e⟩ := jbind e
    refine ey_getf_i (cd_29 rfl) mt_29 rfl rfl rfl e24 ?_
    cases e
    exact ey_reti (cd_29 rfl) mt_29 rfl
  | inr y22 =>
    replace e : (jse y22 (fun y25 => some (y25, h)) (fun y26 => ((jck h this 2).bind fun u27 => ((jd_30 this 2 h).bind fun v29 => ((jpi h this 2 0 v29).bind fun h31 => ((jck h31 this 2).bind fun u33 => ((jd_30 this 3 h31).bind fun v35 => ((jpi h31 this 2 1 (8 * v35)).bind fun h37 => ((jck h37 this 2).bind fun u39 => ((jd_30 this 4 h37).bind fun v41 => ((jpi h37 this 2 2 (8 * v41)).bind fun h43 => ((jck h43 this 2).bind fun u45 => ((jd_30 this 5 h43).bind fun v47 => ((jpi h43 this 2 3 v47).bind fun h49 => ((jck h49 this 2).bind fun u51 => ((jd_30 this 6 h49).bind fun v53 => ((jpi h49 this 2 4 v53).bind fun h55 => ((jd_29_l109 this 0 h55).bind fun x64 => ((jd_29_l133 this 7 0 x64).bind fun x80 => jse x80 (fun y82 => some (y82.1, y82.2)) (fun y83 => ((jgi y83.2 this 2 6).bind fun v84 => some ((if (jw v84) ≤ (jw y83.1) then (-1) else y83.1), y83.2))))))))))))))))))))) : Option (Int × jH)) = some o := e
    cases y22 with
    | inl y25 =>
      replace e : (some (y25, h) : Option (Int × jH)) = some o := e
      intro lv g1
      refine ey_iload_n (cd_29 rfl) g1 ?_
      cases e
      exact ey_reti (cd_29 rfl) mt_29 rfl
    | inr y26 =>
      replace e : (((jck h this 2).bind fun u27 => ((jd_30 this 2 h).bind fun v29 => ((jpi h this 2 0 v29).bind fun h31 => ((jck h31 this 2).bind fun u33 => ((jd_30 this 3 h31).bind fun v35 => ((jpi h31 this 2 1 (8 * v35)).bind fun h37 => ((jck h37 this 2).bind fun u39 => ((jd_30 this 4 h37).bind fun v41 => ((jpi h37 this 2 2 (8 * v41)).bind fun h43 => ((jck h43 this 2).bind fun u45 => ((jd_30 this 5 h43).bind fun v47 => ((jpi h43 this 2 3 v47).bind fun h49 => ((jck h49 this 2).bind fun u51 => ((jd_30 this 6 h49).bind fun v53 => ((jpi h49 this 2 4 v53).bind fun h55 => ((jd_29_l109 this 0 h55).bind fun x64 => ((jd_29_l133 this 7 0 x64).bind fun x80 => jse x80 (fun y82 => some (y82.1, y82.2)) (fun y83 => ((jgi y83.2 this 2 6).bind fun v84 => some ((if (jw v84) ≤ (jw y83.1) then (-1) else y83.1), y83.2)))))))))))))))))))) : Option (Int × jH)) = some o := e
      intro lv g0
      refine ey_aload_n (cd_29 rfl) g0 ?_
      refine ey_aload_n (cd_29 rfl) g0 ?_
      refine ey_iconst (cd_29 rfl) ?_
      obtain ⟨u27, e28, e⟩ := jbind e
      obtain ⟨v29, e30, e⟩ := jbind e
      refine ey_cv (s0 := [jI 2, jR (some this), jR (some this)]) (s1 := [jR (some this)]) (st' := [jI v29, jR (some this)]) (cd_29 rfl) mt_29 mt_30 rfl rfl rfl (jck_s e28) rfl (jsml_s rfl) rfl (mm_Runs.up (d := 1) (by decide) (ok_30 e30)) ?_
      obtain ⟨h31, e32, e⟩ := jbind e
      refine ey_putf_i (cd_29 rfl) mt_29 rfl rfl rfl e32 ?_
      refine ey_aload_n (cd_29 rfl) g0 ?_
      refine ey_bipush (cd_29 rfl) (by decide) ?_
      refine ey_aload_n (cd_29 rfl) g0 ?_
      refine ey_iconst (cd_29 rfl) ?_
      obtain ⟨u33, e34, e⟩ := jbind e
      obtain ⟨v35, e36, e⟩ := jbind e
      refine ey_cv (s0 := [jI 3, jR (some this), jI 8, jR (some this)]) (s1 := [jI 8, jR (some this)]) (st' := [jI v35, jI 8, jR (some this)]) (cd_29 rfl) mt_29 mt_30 rfl rfl rfl (jck_s e34) rfl (jsml_s rfl) rfl (mm_Runs.up (d := 1) (by decide) (ok_30 e36)) ?_
      refine ey_imul (cd_29 rfl) ?_
      obtain ⟨h37, e38, e⟩ := jbind e
      refine ey_putf_i (cd_29 rfl) mt_29 rfl rfl rfl e38 ?_
      refine ey_aload_n (cd_29 rfl) g0 ?_
      refine ey_bipush (cd_29 rfl) (by decide) ?_
      refine ey_aload_n (cd_29 rfl) g0 ?_
      refine ey_iconst (cd_29 rfl) ?_
      obtain ⟨u39, e40, e⟩ := jbind e
      obtain ⟨v41, e42, e⟩ := jbind e
      refine ey_cv (s0 := [jI 4, jR (some this), jI 8, jR (some this)]) (s1 := [jI 8, jR (some this)]) (st' := [jI v41, jI 8, jR (some this)]) (cd_29 rfl) mt_29 mt_30 rfl rfl rfl (jck_s e40) rfl (jsml_s rfl) rfl (mm_Runs.up (d := 1) (by decide) (ok_30 e42)) ?_
      refine ey_imul (cd_29 rfl) ?_
      obtain ⟨h43, e44, e⟩ := jbind e
      refine ey_putf_i (cd_29 rfl) mt_29 rfl rfl rfl e44 ?_
      refine ey_aload_n (cd_29 rfl) g0 ?_
      refine ey_aload_n (cd_29 rfl) g0 ?_
      refine ey_iconst (cd_29 rfl) ?_
      obtain ⟨u45, e46, e⟩ := jbind e
      obtain ⟨v47, e48, e⟩ := jbind e
      refine ey_cv (s0 := [jI 5, jR (some this), jR (some this)]) (s1 := [jR (some this)]) (st' := [jI v47, jR (some this)]) (cd_29 rfl) mt_29 mt_30 rfl rfl rfl (jck_s e46) rfl (jsml_s rfl) rfl (mm_Runs.up (d := 1) (by decide) (ok_30 e48)) ?_
      obtain ⟨h49, e50, e⟩ := jbind e
      refine ey_putf_i (cd_29 rfl) mt_29 rfl rfl rfl e50 ?_
      refine ey_aload_n (cd_29 rfl) g0 ?_
      refine ey_aload_n (cd_29 rfl) g0 ?_
      refine ey_bipush (cd_29 rfl) (by decide) ?_
      obtain ⟨u51, e52, e⟩ := jbind e
      obtain ⟨v53, e54, e⟩ := jbind e
      refine ey_cv (s0 := [jI 6, jR (some this), jR (some this)]) (s1 := [jR (some this)]) (st' := [jI v53, jR (some this)]) (cd_29 rfl) mt_29 mt_30 rfl rfl rfl (jck_s e52) rfl (jsml_s rfl) rfl (mm_Runs.up (d := 1) (by decide) (ok_30 e54)) ?_
      obtain ⟨h55, e56, e⟩ := jbind e
      refine ey_putf_i (cd_29 rfl) mt_29 rfl rfl rfl e56 ?_
      refine ey_iconst (cd_29 rfl) ?_
      refine ey_istore_n (cd_29 rfl) mt_29 rfl ?_
      obtain ⟨x64, e65, e⟩ := jbind e
      refine jk_29_l109 e65 ?_ (jup lv 1 (jI 0)) (jup_pr (lv := lv) (j := 0) (v := jI 0) (z := (some this)) g0) rfl
      intro lv g0
      refine ey_bipush (cd_29 rfl) (by decide) ?_
      refine ey_istore_n (cd_29 rfl) mt_29 rfl ?_
      refine ey_iconst (cd_29 rfl) ?_
      refine ey_istore_n (cd_29 rfl) mt_29 rfl ?_
      obtain ⟨x80, e81, e⟩ := jbind e
      refine jk_29_l133 e81 ?_ (jup (jup lv 1 (jI 7)) 2 (jI 0)) (jup_o rfl (jup_pr (lv := lv) (j := 0) (v := jI 7) (z := (some this)) g0)) (jup_pi (lv := (jup lv 1 (jI 7))) (j := 1) (v := jI 0) (z := 7) rfl) rfl
      cases x80 with
      | inl y82 =>
        replace e : (some (y82.1, y82.2) : Option (Int × jH)) = some o := e
        intro lv g3
        refine ey_iload_n (cd_29 rfl) g3 ?_
        cases e
        exact ey_reti (cd_29 rfl) mt_29 rfl
      | inr y83 =>
        replace e : (((jgi y83.2 this 2 6).bind fun v84 => some ((if (jw v84) ≤ (jw y83.1) then (-1) else y83.1), y83.2)) : Option (Int × jH)) = some o := e
        intro lv g0 g1
        refine ey_iload_n (cd_29 rfl) g1 ?_
        refine ey_aload_n (cd_29 rfl) g0 ?_
        obtain ⟨v84, e85, e⟩ := jbind e
        refine ey_getf_i (cd_29 rfl) mt_29 rfl rfl rfl e85 ?_
        have K86 : ∀ lv : jL, ey (mm_xt L xs) 3 29 184 lv [jI (if (jw v84) ≤ (jw y83.1) then (-1) else y83.1)] y83.2 (.inl (some (jcv (jI o.1)), jaH o.2)) := by
          intro lv 
          cases e
          exact ey_reti (cd_29 rfl) mt_29 rfl
        by_cases q87 : (jw v84) ≤ (jw y83.1)
        · refine ey_cge (cd_29 rfl) rfl rfl rfl q87 ?_
          refine ey_iconst (cd_29 rfl) ?_
          exact ey_rs (s0 := [jI (-1)]) (s1 := [jI (if (jw v84) ≤ (jw y83.1) then (-1) else y83.1)]) (by rw [show ((if (jw v84) ≤ (jw y83.1) then (-1) else y83.1) : Int) = (-1) from (if_pos q87)]) (K86 lv )
        · refine ey_nge (cd_29 rfl) rfl rfl rfl q87 ?_
          refine ey_iload_n (cd_29 rfl) g1 ?_
          refine ey_goto (cd_29 rfl) rfl ?_
          exact ey_rs (s0 := [jI y83.1]) (s1 := [jI (if (jw v84) ≤ (jw y83.1) then (-1) else y83.1)]) (by rw [show ((if (jw v84) ≤ (jw y83.1) then (-1) else y83.1) : Int) = y83.1 from (if_neg q87)]) (K86 lv )
theorem cd_36 {pc : Nat} {i : Instr × Nat} (h : mm_lk mm_c36 pc = some i) : mm_cd 36 pc = some i := h
theorem mt_36 : mm_MT 36 = (2, 3, none, 0, 0, []) := rfl
set_option maxRecDepth 100000 in
theorem jk_36_b76 {L : Nat} {xs : Nat → Int32} {this : Nat} {x1 : Int} {x2 : Int} {y0 : Int} {y1 : Int} {y2 : Option Nat} {h : jH} {o : ((Int × jH) ⊕ jH)} {r : mm_R} (e : jd_36_b76 this x1 x2 y0 y1 y2 h = some o) (K : jsm (fun s => (∀ lv : jL, lv 0 = some (jR (some this)) → lv 1 = some (jI x1) → lv 2 = some (jI s.1) → ey (mm_xt L xs) 0 36 34 lv [] s.2 r)) (fun x => (∀ lv : jL, lv 0 = some (jR (some this)) → lv 1 = some (jI x1) → ey (mm_xt L xs) 0 36 83 lv [] x r)) o) : ∀ lv : jL, lv 0 = some (jR (some this)) → lv 1 = some (jI x1) → lv 2 = some (jI x2) → ey (mm_xt L xs) 0 36 76 lv [jI y0, jI y1, jR y2] h r := by
  intro lv f0 f1 f2
  unfold jd_36_b76 at e
  obtain ⟨a28, e29, e⟩ := jbind e
  refine ey_rs (s0 := [jI y0, jI y1, jR y2]) (s1 := [jI y0, jI y1, jR (some a28)]) (by rw [e29]) ?_
  obtain ⟨h30, e31, e⟩ := jbind e
  refine ey_zast (cd_36 rfl) e31 ?_
  refine ey_iinc (cd_36 rfl) mt_36 rfl f2 ?_
  refine ey_goto (cd_36 rfl) rfl ?_
  cases e
  exact K (jup lv 2 (jI (x2 + 1))) f0 (jup_pi (lv := lv) (j := 1) (v := jI (x2 + 1)) (z := x1) f1) rfl
set_option maxRecDepth 100000 in
theorem jk_36_s34 {L : Nat} {xs : Nat → Int32} {this : Nat} {x1 : Int} {x2 : Int} {h : jH} {o : ((Int × jH) ⊕ jH)} {r : mm_R} (e : jd_36_s34 this x1 x2 h = some o) (K : jsm (fun s => (∀ lv : jL, lv 0 = some (jR (some this)) → lv 1 = some (jI x1) → lv 2 = some (jI s.1) → ey (mm_xt L xs) 0 36 34 lv [] s.2 r)) (fun x => (∀ lv : jL, lv 0 = some (jR (some this)) → lv 1 = some (jI x1) → ey (mm_xt L xs) 0 36 83 lv [] x r)) o) : ∀ lv : jL, lv 0 = some (jR (some this)) → lv 1 = some (jI x1) → lv 2 = some (jI x2) → ey (mm_xt L xs) 0 36 34 lv [] h r := by
  intro lv f0 f1 f2
  unfold jd_36_s34 at e
  refine ey_iload_n (cd_36 rfl) f2 ?_
  refine ey_aload_n (cd_36 rfl) f0 ?_
  obtain ⟨v16, e17, e⟩ := jbind e
  refine ey_getf_i (cd_36 rfl) mt_36 rfl rfl rfl e17 ?_
  by_cases q18 : (jw v16) ≤ (jw x2)
  · rw [if_pos q18] at e
    refine ey_cge (cd_36 rfl) rfl rfl rfl q18 ?_
    cases e
    exact K lv f0 f1
  · rw [if_neg q18] at e
    refine ey_nge (cd_36 rfl) rfl rfl rfl q18 ?_
    refine ey_aload_n (cd_36 rfl) f0 ?_
    obtain ⟨r19, e20, e⟩ := jbind e
    refine ey_getf_r (cd_36 rfl) mt_36 rfl rfl rfl e20 ?_
    refine ey_iload_n (cd_36 rfl) f1 ?_
    refine ey_aload_n (cd_36 rfl) f0 ?_
    obtain ⟨r21, e22, e⟩ := jbind e
    refine ey_getf_r (cd_36 rfl) mt_36 rfl rfl rfl e22 ?_
    refine ey_iload_n (cd_36 rfl) f1 ?_
    obtain ⟨a23, e24, e⟩ := jbind e
    refine ey_rs (s0 := [jI x1, jR r21, jI x1, jR r19]) (s1 := [jI x1, jR (some a23), jI x1, jR r19]) (by rw [e24]) ?_
    obtain ⟨v25, e26, e⟩ := jbind e
    refine ey_zald (cd_36 rfl) e26 ?_
    by_cases q27 : (jw v25) = 0
    · rw [if_pos q27] at e
      refine ey_zeq (cd_36 rfl) rfl rfl q27 ?_
      refine ey_iconst (cd_36 rfl) ?_
      exact jk_36_b76 e K lv f0 f1 f2
    · rw [if_neg q27] at e
      refine ey_yeq (cd_36 rfl) rfl rfl q27 ?_
      refine ey_aload_n (cd_36 rfl) f0 ?_
      obtain ⟨r32, e33, e⟩ := jbind e
      refine ey_getf_r (cd_36 rfl) mt_36 rfl rfl rfl e33 ?_
      refine ey_iload_n (cd_36 rfl) f2 ?_
      obtain ⟨a34, e35, e⟩ := jbind e
      refine ey_rs (s0 := [jI x2, jR r32, jI x1, jR r19]) (s1 := [jI x2, jR (some a34), jI x1, jR r19]) (by rw [e35]) ?_
      obtain ⟨v36, e37, e⟩ := jbind e
      refine ey_iald (cd_36 rfl) e37 ?_
      refine ey_aload_n (cd_36 rfl) f0 ?_
      obtain ⟨r38, e39, e⟩ := jbind e
      refine ey_getf_r (cd_36 rfl) mt_36 rfl rfl rfl e39 ?_
      refine ey_iload_n (cd_36 rfl) f1 ?_
      obtain ⟨a40, e41, e⟩ := jbind e
      refine ey_rs (s0 := [jI x1, jR r38, jI v36, jI x1, jR r19]) (s1 := [jI x1, jR (some a40), jI v36, jI x1, jR r19]) (by rw [e41]) ?_
      obtain ⟨v42, e43, e⟩ := jbind e
      refine ey_iald (cd_36 rfl) e43 ?_
      have K44 : ∀ lv : jL, lv 0 = some (jR (some this)) → lv 1 = some (jI x1) → lv 2 = some (jI x2) → ey (mm_xt L xs) 0 36 76 lv [jI (if (jw v36) ≤ (jw v42) then 0 else 1), jI x1, jR r19] h r := by
        intro lv g0 g1 g2
        exact jk_36_b76 e K lv g0 g1 g2
      by_cases q45 : (jw v36) ≤ (jw v42)
      · refine ey_cle (cd_36 rfl) rfl rfl rfl q45 ?_
        refine ey_iconst (cd_36 rfl) ?_
        exact ey_rs (s0 := [jI 0, jI x1, jR r19]) (s1 := [jI (if (jw v36) ≤ (jw v42) then 0 else 1), jI x1, jR r19]) (by rw [show ((if (jw v36) ≤ (jw v42) then 0 else 1) : Int) = 0 from (if_pos q45)]) (K44 lv f0 f1 f2)
      · refine ey_nle (cd_36 rfl) rfl rfl rfl q45 ?_
        refine ey_iconst (cd_36 rfl) ?_
        refine ey_goto (cd_36 rfl) rfl ?_
        exact ey_rs (s0 := [jI 1, jI x1, jR r19]) (s1 := [jI (if (jw v36) ≤ (jw v42) then 0 else 1), jI x1, jR r19]) (by rw [show ((if (jw v36) ≤ (jw v42) then 0 else 1) : Int) = 1 from (if_neg q45)]) (K44 lv f0 f1 f2)
theorem jk_36_l34 {L : Nat} {xs : Nat → Int32} {this : Nat} {x1 : Int} {x2 : Int} {h : jH} {x : jH} {r : mm_R} (e : jd_36_l34 this x1 x2 h = some x) (K : (∀ lv : jL, lv 0 = some (jR (some this)) → lv 1 = some (jI x1) → ey (mm_xt L xs) 0 36 83 lv [] x r)) : ∀ lv : jL, lv 0 = some (jR (some this)) → lv 1 = some (jI x1) → lv 2 = some (jI x2) → ey (mm_xt L xs) 0 36 34 lv [] h r := by
  unfold jd_36_l34 at e
  exact jlp_ok2 (P := fun s => ∀ lv : jL, lv 0 = some (jR (some this)) → lv 1 = some (jI x1) → lv 2 = some (jI s.1) → ey (mm_xt L xs) 0 36 34 lv [] s.2 r) (Q := fun x => (∀ lv : jL, lv 0 = some (jR (some this)) → lv 1 = some (jI x1) → ey (mm_xt L xs) 0 36 83 lv [] x r)) (fun s q hq hk => jk_36_s34 hq hk) jfu _ x e K
set_option maxRecDepth 100000 in
theorem jk_36_s2 {L : Nat} {xs : Nat → Int32} {this : Nat} {x1 : Int} {h : jH} {o : ((Int × jH) ⊕ jH)} {r : mm_R} (e : jd_36_s2 this x1 h = some o) (K : jsm (fun s => (∀ lv : jL, lv 0 = some (jR (some this)) → lv 1 = some (jI s.1) → ey (mm_xt L xs) 0 36 2 lv [] s.2 r)) (fun x => (∀ lv : jL, ey (mm_xt L xs) 0 36 89 lv [] x r)) o) : ∀ lv : jL, lv 0 = some (jR (some this)) → lv 1 = some (jI x1) → ey (mm_xt L xs) 0 36 2 lv [] h r := by
  intro lv f0 f1
  unfold jd_36_s2 at e
  refine ey_iload_n (cd_36 rfl) f1 ?_
  refine ey_aload_n (cd_36 rfl) f0 ?_
  obtain ⟨v1, e2, e⟩ := jbind e
  refine ey_getf_i (cd_36 rfl) mt_36 rfl rfl rfl e2 ?_
  by_cases q3 : (jw v1) ≤ (jw x1)
  · rw [if_pos q3] at e
    refine ey_cge (cd_36 rfl) rfl rfl rfl q3 ?_
    cases e
    exact K lv 
  · rw [if_neg q3] at e
    refine ey_nge (cd_36 rfl) rfl rfl rfl q3 ?_
    refine ey_aload_n (cd_36 rfl) f0 ?_
    obtain ⟨r4, e5, e⟩ := jbind e
    refine ey_getf_r (cd_36 rfl) mt_36 rfl rfl rfl e5 ?_
    refine ey_iload_n (cd_36 rfl) f1 ?_
    refine ey_aload_n (cd_36 rfl) f0 ?_
    obtain ⟨r6, e7, e⟩ := jbind e
    refine ey_getf_r (cd_36 rfl) mt_36 rfl rfl rfl e7 ?_
    refine ey_iload_n (cd_36 rfl) f1 ?_
    obtain ⟨a8, e9, e⟩ := jbind e
    refine ey_rs (s0 := [jI x1, jR r6, jI x1, jR r4]) (s1 := [jI x1, jR (some a8), jI x1, jR r4]) (by rw [e9]) ?_
    obtain ⟨v10, e11, e⟩ := jbind e
    refine ey_iald (cd_36 rfl) e11 ?_
    have K48 : ∀ lv : jL, lv 0 = some (jR (some this)) → lv 1 = some (jI x1) → ey (mm_xt L xs) 0 36 29 lv [jI (if (jw v10) = 0 then 1 else 0), jI x1, jR r4] h r := by
      intro lv g0 g1
      obtain ⟨a12, e13, e⟩ := jbind e
      refine ey_rs (s0 := [jI (if (jw v10) = 0 then 1 else 0), jI x1, jR r4]) (s1 := [jI (if (jw v10) = 0 then 1 else 0), jI x1, jR (some a12)]) (by rw [e13]) ?_
      obtain ⟨h14, e15, e⟩ := jbind e
      refine ey_zast (cd_36 rfl) e15 ?_
      refine ey_iload_n (cd_36 rfl) g1 ?_
      refine ey_iconst (cd_36 rfl) ?_
      refine ey_iadd (cd_36 rfl) ?_
      refine ey_istore_n (cd_36 rfl) mt_36 rfl ?_
      obtain ⟨x46, e47, e⟩ := jbind e
      refine jk_36_l34 e47 ?_ (jup lv 2 (jI (x1 + 1))) g0 (jup_pi (lv := lv) (j := 1) (v := jI (x1 + 1)) (z := x1) g1) rfl
      intro lv g0 g1
      refine ey_iinc (cd_36 rfl) mt_36 rfl g1 ?_
      refine ey_goto (cd_36 rfl) rfl ?_
      cases e
      exact K (jup lv 1 (jI (x1 + 1))) (jup_pr (lv := lv) (j := 0) (v := jI (x1 + 1)) (z := (some this)) g0) rfl
    by_cases q49 : (jw v10) = 0
    · refine ey_yne (cd_36 rfl) rfl rfl (fun w => w q49) ?_
      refine ey_iconst (cd_36 rfl) ?_
      refine ey_goto (cd_36 rfl) rfl ?_
      exact ey_rs (s0 := [jI 1, jI x1, jR r4]) (s1 := [jI (if (jw v10) = 0 then 1 else 0), jI x1, jR r4]) (by rw [show ((if (jw v10) = 0 then 1 else 0) : Int) = 1 from (if_pos q49)]) (K48 lv f0 f1)
    · refine ey_zne (cd_36 rfl) rfl rfl q49 ?_
      refine ey_iconst (cd_36 rfl) ?_
      exact ey_rs (s0 := [jI 0, jI x1, jR r4]) (s1 := [jI (if (jw v10) = 0 then 1 else 0), jI x1, jR r4]) (by rw [show ((if (jw v10) = 0 then 1 else 0) : Int) = 0 from (if_neg q49)]) (K48 lv f0 f1)
theorem jk_36_l2 {L : Nat} {xs : Nat → Int32} {this : Nat} {x1 : Int} {h : jH} {x : jH} {r : mm_R} (e : jd_36_l2 this x1 h = some x) (K : (∀ lv : jL, ey (mm_xt L xs) 0 36 89 lv [] x r)) : ∀ lv : jL, lv 0 = some (jR (some this)) → lv 1 = some (jI x1) → ey (mm_xt L xs) 0 36 2 lv [] h r := by
  unfold jd_36_l2 at e
  exact jlp_ok2 (P := fun s => ∀ lv : jL, lv 0 = some (jR (some this)) → lv 1 = some (jI s.1) → ey (mm_xt L xs) 0 36 2 lv [] s.2 r) (Q := fun x => (∀ lv : jL, ey (mm_xt L xs) 0 36 89 lv [] x r)) (fun s q hq hk => jk_36_s2 hq hk) jfu _ x e K
set_option maxRecDepth 100000 in
theorem ok_36 {L : Nat} {xs : Nat → Int32} {this : Nat}  {h : jH} {o : jH} (e : jd_36 this  h = some o) : mm_Runs (mm_xt L xs) 1 36 ([jR (some this)].map jcv) (jaH h) (.inl (none, jaH o)) := by
  refine ey_run0 _ mt_36 (jsl_s rfl) ?_
  unfold jd_36 at e
  refine ey_iconst (cd_36 rfl) ?_
  refine ey_istore_n (cd_36 rfl) mt_36 rfl ?_
  obtain ⟨x50, e51, e⟩ := jbind e
  refine jk_36_l2 e51 ?_ (jup (jlf (jla 0 [jR (some this)])) 1 (jI 0)) (jup_pr (lv := (jlf (jla 0 [jR (some this)]))) (j := 0) (v := jI 0) (z := (some this)) rfl) rfl
  intro lv 
  cases e
  exact ey_retv (cd_36 rfl) mt_36 rfl
theorem cd_37 {pc : Nat} {i : Instr × Nat} (h : mm_lk mm_c37 pc = some i) : mm_cd 37 pc = some i := h
theorem mt_37 : mm_MT 37 = (2, 3, some .int, 1, 0, []) := rfl
set_option maxRecDepth 100000 in
theorem jk_37_s2 {L : Nat} {xs : Nat → Int32} {this : Nat} {x2 : Int} {h : jH} {o : (Int ⊕ (Int ⊕ Unit))} {r : mm_R} (e : jd_37_s2 this x2 h = some o) (K : jsm (fun s => (∀ lv : jL, lv 0 = some (jR (some this)) → lv 2 = some (jI s) → ey (mm_xt L xs) 0 37 2 lv [] h r)) (fun x => (jsm (fun y => (∀ lv : jL, lv 2 = some (jI y) → ey (mm_xt L xs) 0 37 15 lv [] h r)) (fun z => (∀ lv : jL, ey (mm_xt L xs) 0 37 23 lv [] h r)) x)) o) : ∀ lv : jL, lv 0 = some (jR (some this)) → lv 2 = some (jI x2) → ey (mm_xt L xs) 0 37 2 lv [] h r := by
  intro lv f0 f2
  unfold jd_37_s2 at e
  refine ey_iload_n (cd_37 rfl) f2 ?_
  by_cases q1 : (jw x2) ≤ 0
  · rw [if_pos q1] at e
    refine ey_zle (cd_37 rfl) rfl rfl q1 ?_
    cases e
    exact K lv 
  · rw [if_neg q1] at e
    refine ey_yle (cd_37 rfl) rfl rfl q1 ?_
    refine ey_aload_n (cd_37 rfl) f0 ?_
    obtain ⟨r2, e3, e⟩ := jbind e
    refine ey_getf_r (cd_37 rfl) mt_37 rfl rfl rfl e3 ?_
    refine ey_iload_n (cd_37 rfl) f2 ?_
    obtain ⟨a4, e5, e⟩ := jbind e
    refine ey_rs (s0 := [jI x2, jR r2]) (s1 := [jI x2, jR (some a4)]) (by rw [e5]) ?_
    obtain ⟨v6, e7, e⟩ := jbind e
    refine ey_zald (cd_37 rfl) e7 ?_
    by_cases q8 : (jw v6) = 0
    · rw [if_pos q8] at e
      refine ey_zeq (cd_37 rfl) rfl rfl q8 ?_
      refine ey_iinc (cd_37 rfl) mt_37 rfl f2 ?_
      refine ey_goto (cd_37 rfl) rfl ?_
      cases e
      exact K (jup lv 2 (jI (x2 + (-1)))) f0 rfl
    · rw [if_neg q8] at e
      refine ey_yeq (cd_37 rfl) rfl rfl q8 ?_
      cases e
      exact K lv f2
theorem jk_37_l2 {L : Nat} {xs : Nat → Int32} {this : Nat} {x2 : Int} {h : jH} {x : (Int ⊕ Unit)} {r : mm_R} (e : jd_37_l2 this x2 h = some x) (K : (jsm (fun y => (∀ lv : jL, lv 2 = some (jI y) → ey (mm_xt L xs) 0 37 15 lv [] h r)) (fun z => (∀ lv : jL, ey (mm_xt L xs) 0 37 23 lv [] h r)) x)) : ∀ lv : jL, lv 0 = some (jR (some this)) → lv 2 = some (jI x2) → ey (mm_xt L xs) 0 37 2 lv [] h r := by
  unfold jd_37_l2 at e
  exact jlp_ok2 (P := fun s => ∀ lv : jL, lv 0 = some (jR (some this)) → lv 2 = some (jI s) → ey (mm_xt L xs) 0 37 2 lv [] h r) (Q := fun x => (jsm (fun y => (∀ lv : jL, lv 2 = some (jI y) → ey (mm_xt L xs) 0 37 15 lv [] h r)) (fun z => (∀ lv : jL, ey (mm_xt L xs) 0 37 23 lv [] h r)) x)) (fun s q hq hk => jk_37_s2 hq hk) jfu _ x e K
set_option maxRecDepth 100000 in
theorem ok_37 {L : Nat} {xs : Nat → Int32} {this : Nat} {p0 : Int} {h : jH} {o : Int} (e : jd_37 this p0 h = some o) : mm_Runs (mm_xt L xs) 1 37 ([jR (some this), jI p0].map jcv) (jaH h) (.inl (some (jcv (jI o)), jaH h)) := by
  refine ey_run0 _ mt_37 (jsl_s rfl) ?_
  unfold jd_37 at e
  refine ey_iload_n (cd_37 rfl) rfl ?_
  refine ey_istore_n (cd_37 rfl) mt_37 rfl ?_
  obtain ⟨x9, e10, e⟩ := jbind e
  refine jk_37_l2 e10 ?_ (jup (jlf (jla 0 [jR (some this), jI p0])) 2 (jI p0)) rfl rfl
  cases x9 with
  | inl y11 =>
    replace e : (some y11 : Option Int) = some o := e
    intro lv g2
    refine ey_iload_n (cd_37 rfl) g2 ?_
    cases e
    exact ey_reti (cd_37 rfl) mt_37 rfl
  | inr y12 =>
    replace e : (some 0 : Option Int) = some o := e
    intro lv 
    refine ey_iconst (cd_37 rfl) ?_
    cases e
    exact ey_reti (cd_37 rfl) mt_37 rfl
theorem cd_38 {pc : Nat} {i : Instr × Nat} (h : mm_lk mm_c38 pc = some i) : mm_cd 38 pc = some i := h
theorem mt_38 : mm_MT 38 = (2, 3, some .int, 1, 0, []) := rfl
set_option maxRecDepth 100000 in
theorem jk_38_s4 {L : Nat} {xs : Nat → Int32} {this : Nat} {x2 : Int} {h : jH} {o : (Int ⊕ (Int ⊕ Unit))} {r : mm_R} (e : jd_38_s4 this x2 h = some o) (K : jsm (fun s => (∀ lv : jL, lv 0 = some (jR (some this)) → lv 2 = some (jI s) → ey (mm_xt L xs) 0 38 4 lv [] h r)) (fun x => (jsm (fun y => (∀ lv : jL, lv 2 = some (jI y) → ey (mm_xt L xs) 0 38 21 lv [] h r)) (fun z => (∀ lv : jL, lv 0 = some (jR (some this)) → ey (mm_xt L xs) 0 38 29 lv [] h r)) x)) o) : ∀ lv : jL, lv 0 = some (jR (some this)) → lv 2 = some (jI x2) → ey (mm_xt L xs) 0 38 4 lv [] h r := by
  intro lv f0 f2
  unfold jd_38_s4 at e
  refine ey_iload_n (cd_38 rfl) f2 ?_
  refine ey_aload_n (cd_38 rfl) f0 ?_
  obtain ⟨v1, e2, e⟩ := jbind e
  refine ey_getf_i (cd_38 rfl) mt_38 rfl rfl rfl e2 ?_
  by_cases q3 : (jw v1) ≤ (jw x2)
  · rw [if_pos q3] at e
    refine ey_cge (cd_38 rfl) rfl rfl rfl q3 ?_
    cases e
    exact K lv f0
  · rw [if_neg q3] at e
    refine ey_nge (cd_38 rfl) rfl rfl rfl q3 ?_
    refine ey_aload_n (cd_38 rfl) f0 ?_
    obtain ⟨r4, e5, e⟩ := jbind e
    refine ey_getf_r (cd_38 rfl) mt_38 rfl rfl rfl e5 ?_
    refine ey_iload_n (cd_38 rfl) f2 ?_
    obtain ⟨a6, e7, e⟩ := jbind e
    refine ey_rs (s0 := [jI x2, jR r4]) (s1 := [jI x2, jR (some a6)]) (by rw [e7]) ?_
    obtain ⟨v8, e9, e⟩ := jbind e
    refine ey_zald (cd_38 rfl) e9 ?_
    by_cases q10 : (jw v8) = 0
    · rw [if_pos q10] at e
      refine ey_zeq (cd_38 rfl) rfl rfl q10 ?_
      refine ey_iinc (cd_38 rfl) mt_38 rfl f2 ?_
      refine ey_goto (cd_38 rfl) rfl ?_
      cases e
      exact K (jup lv 2 (jI (x2 + 1))) f0 rfl
    · rw [if_neg q10] at e
      refine ey_yeq (cd_38 rfl) rfl rfl q10 ?_
      cases e
      exact K lv f2
theorem jk_38_l4 {L : Nat} {xs : Nat → Int32} {this : Nat} {x2 : Int} {h : jH} {x : (Int ⊕ Unit)} {r : mm_R} (e : jd_38_l4 this x2 h = some x) (K : (jsm (fun y => (∀ lv : jL, lv 2 = some (jI y) → ey (mm_xt L xs) 0 38 21 lv [] h r)) (fun z => (∀ lv : jL, lv 0 = some (jR (some this)) → ey (mm_xt L xs) 0 38 29 lv [] h r)) x)) : ∀ lv : jL, lv 0 = some (jR (some this)) → lv 2 = some (jI x2) → ey (mm_xt L xs) 0 38 4 lv [] h r := by
  unfold jd_38_l4 at e
  exact jlp_ok2 (P := fun s => ∀ lv : jL, lv 0 = some (jR (some this)) → lv 2 = some (jI s) → ey (mm_xt L xs) 0 38 4 lv [] h r) (Q := fun x => (jsm (fun y => (∀ lv : jL, lv 2 = some (jI y) → ey (mm_xt L xs) 0 38 21 lv [] h r)) (fun z => (∀ lv : jL, lv 0 = some (jR (some this)) → ey (mm_xt L xs) 0 38 29 lv [] h r)) x)) (fun s q hq hk => jk_38_s4 hq hk) jfu _ x e K
set_option maxRecDepth 100000 in
theorem ok_38 {L : Nat} {xs : Nat → Int32} {this : Nat} {p0 : Int} {h : jH} {o : Int} (e : jd_38 this p0 h = some o) : mm_Runs (mm_xt L xs) 1 38 ([jR (some this), jI p0].map jcv) (jaH h) (.inl (some (jcv (jI o)), jaH h)) := by
  refine ey_run0 _ mt_38 (jsl_s rfl) ?_
  unfold jd_38 at e
  refine ey_iload_n (cd_38 rfl) rfl ?_
  refine ey_iconst (cd_38 rfl) ?_
  refine ey_iadd (cd_38 rfl) ?_
  refine ey_istore_n (cd_38 rfl) mt_38 rfl ?_
  obtain ⟨x11, e12, e⟩ := jbind e
  refine jk_38_l4 e12 ?_ (jup (jlf (jla 0 [jR (some this), jI p0])) 2 (jI (p0 + 1))) rfl rfl
  cases x11 with
  | inl y13 =>
    replace e : (some y13 : Option Int) = some o := e
    intro lv g2
    refine ey_iload_n (cd_38 rfl) g2 ?_
    cases e
    exact ey_reti (cd_38 rfl) mt_38 rfl
  | inr y14 =>
    replace e : (((jgi h this 2 4).bind fun v15 => some v15) : Option Int) = some o := e
    intro lv g0
    refine ey_aload_n (cd_38 rfl) g0 ?_
    obtain ⟨v15, e16, e⟩ := jbind e
    refine ey_getf_i (cd_38 rfl) mt_38 rfl rfl rfl e16 ?_
    cases e
    exact ey_reti (cd_38 rfl) mt_38 rfl
theorem cd_39 {pc : Nat} {i : Instr × Nat} (h : mm_lk mm_c39 pc = some i) : mm_cd 39 pc = some i := h
theorem mt_39 : mm_MT 39 = (2, 3, some .int, 0, 0, []) := rfl
set_option maxRecDepth 100000 in
theorem jk_39_s4 {L : Nat} {xs : Nat → Int32} {this : Nat} {x1 : Int} {x2 : Int} {h : jH} {o : ((Int × Int) ⊕ Int)} {r : mm_R} (e : jd_39_s4 this x1 x2 h = some o) (K : jsm (fun s => (∀ lv : jL, lv 0 = some (jR (some this)) → lv 1 = some (jI s.1) → lv 2 = some (jI s.2) → ey (mm_xt L xs) 0 39 4 lv [] h r)) (fun x => (∀ lv : jL, lv 1 = some (jI x) → ey (mm_xt L xs) 0 39 35 lv [] h r)) o) : ∀ lv : jL, lv 0 = some (jR (some this)) → lv 1 = some (jI x1) → lv 2 = some (jI x2) → ey (mm_xt L xs) 0 39 4 lv [] h r := by
  intro lv f0 f1 f2
  unfold jd_39_s4 at e
  refine ey_iload_n (cd_39 rfl) f2 ?_
  refine ey_aload_n (cd_39 rfl) f0 ?_
  obtain ⟨v1, e2, e⟩ := jbind e
  refine ey_getf_i (cd_39 rfl) mt_39 rfl rfl rfl e2 ?_
  by_cases q3 : (jw v1) ≤ (jw x2)
  · rw [if_pos q3] at e
    refine ey_cge (cd_39 rfl) rfl rfl rfl q3 ?_
    cases e
    exact K lv f1
  · rw [if_neg q3] at e
    refine ey_nge (cd_39 rfl) rfl rfl rfl q3 ?_
    refine ey_iload_n (cd_39 rfl) f1 ?_
    refine ey_aload_n (cd_39 rfl) f0 ?_
    obtain ⟨r4, e5, e⟩ := jbind e
    refine ey_getf_r (cd_39 rfl) mt_39 rfl rfl rfl e5 ?_
    refine ey_iload_n (cd_39 rfl) f2 ?_
    obtain ⟨a6, e7, e⟩ := jbind e
    refine ey_rs (s0 := [jI x2, jR r4, jI x1]) (s1 := [jI x2, jR (some a6), jI x1]) (by rw [e7]) ?_
    obtain ⟨v8, e9, e⟩ := jbind e
    refine ey_zald (cd_39 rfl) e9 ?_
    have K12 : ∀ lv : jL, lv 0 = some (jR (some this)) → lv 2 = some (jI x2) → ey (mm_xt L xs) 0 39 27 lv [jI (if (jw v8) = 0 then 0 else 1), jI x1] h r := by
      intro lv g0 g2
      refine ey_iadd (cd_39 rfl) ?_
      obtain ⟨z10, e11, e⟩ := jbind e
      refine ey_rs (s0 := [jI (x1 + (if (jw v8) = 0 then 0 else 1))]) (s1 := [jI z10]) (by rw [show (x1 + (if (jw v8) = 0 then 0 else 1)) = z10 from Option.some.inj e11]) ?_
      refine ey_istore_n (cd_39 rfl) mt_39 rfl ?_
      refine ey_iinc (cd_39 rfl) mt_39 rfl g2 ?_
      refine ey_goto (cd_39 rfl) rfl ?_
      cases e
      exact K (jup (jup lv 1 (jI z10)) 2 (jI (x2 + 1))) (jup_o rfl (jup_pr (lv := lv) (j := 0) (v := jI z10) (z := (some this)) g0)) (jup_pi (lv := (jup lv 1 (jI z10))) (j := 1) (v := jI (x2 + 1)) (z := z10) rfl) rfl
    by_cases q13 : (jw v8) = 0
    · refine ey_zeq (cd_39 rfl) rfl rfl q13 ?_
      refine ey_iconst (cd_39 rfl) ?_
      exact ey_rs (s0 := [jI 0, jI x1]) (s1 := [jI (if (jw v8) = 0 then 0 else 1), jI x1]) (by rw [show ((if (jw v8) = 0 then 0 else 1) : Int) = 0 from (if_pos q13)]) (K12 lv f0 f2)
    · refine ey_yeq (cd_39 rfl) rfl rfl q13 ?_
      refine ey_iconst (cd_39 rfl) ?_
      refine ey_goto (cd_39 rfl) rfl ?_
      exact ey_rs (s0 := [jI 1, jI x1]) (s1 := [jI (if (jw v8) = 0 then 0 else 1), jI x1]) (by rw [show ((if (jw v8) = 0 then 0 else 1) : Int) = 1 from (if_neg q13)]) (K12 lv f0 f2)
theorem jk_39_l4 {L : Nat} {xs : Nat → Int32} {this : Nat} {x1 : Int} {x2 : Int} {h : jH} {x : Int} {r : mm_R} (e : jd_39_l4 this x1 x2 h = some x) (K : (∀ lv : jL, lv 1 = some (jI x) → ey (mm_xt L xs) 0 39 35 lv [] h r)) : ∀ lv : jL, lv 0 = some (jR (some this)) → lv 1 = some (jI x1) → lv 2 = some (jI x2) → ey (mm_xt L xs) 0 39 4 lv [] h r := by
  unfold jd_39_l4 at e
  exact jlp_ok2 (P := fun s => ∀ lv : jL, lv 0 = some (jR (some this)) → lv 1 = some (jI s.1) → lv 2 = some (jI s.2) → ey (mm_xt L xs) 0 39 4 lv [] h r) (Q := fun x => (∀ lv : jL, lv 1 = some (jI x) → ey (mm_xt L xs) 0 39 35 lv [] h r)) (fun s q hq hk => jk_39_s4 hq hk) jfu _ x e K
set_option maxRecDepth 100000 in
theorem ok_39 {L : Nat} {xs : Nat → Int32} {this : Nat}  {h : jH} {o : Int} (e : jd_39 this  h = some o) : mm_Runs (mm_xt L xs) 1 39 ([jR (some this)].map jcv) (jaH h) (.inl (some (jcv (jI o)), jaH h)) := by
  refine ey_run0 _ mt_39 (jsl_s rfl) ?_
  unfold jd_39 at e
  refine ey_iconst (cd_39 rfl) ?_
  refine ey_istore_n (cd_39 rfl) mt_39 rfl ?_
  refine ey_iconst (cd_39 rfl) ?_
  refine ey_istore_n (cd_39 rfl) mt_39 rfl ?_
  obtain ⟨x14, e15, e⟩ := jbind e
  refine jk_39_l4 e15 ?_ (jup (jup (jlf (jla 0 [jR (some this)])) 1 (jI 0)) 2 (jI 0)) (jup_o rfl (jup_pr (lv := (jlf (jla 0 [jR (some this)]))) (j := 0) (v := jI 0) (z := (some this)) rfl)) (jup_pi (lv := (jup (jlf (jla 0 [jR (some this)])) 1 (jI 0))) (j := 1) (v := jI 0) (z := 0) rfl) rfl
  intro lv g1
  refine ey_iload_n (cd_39 rfl) g1 ?_
  cases e
  exact ey_reti (cd_39 rfl) mt_39 rfl
theorem cd_40 {pc : Nat} {i : Instr × Nat} (h : mm_lk mm_c40 pc = some i) : mm_cd 40 pc = some i := h
theorem mt_40 : mm_MT 40 = (2, 3, some .int, 0, 0, []) := rfl
set_option maxRecDepth 100000 in
theorem jk_40_s4 {L : Nat} {xs : Nat → Int32} {this : Nat} {x1 : Int} {x2 : Int} {h : jH} {o : ((Int × Int) ⊕ Int)} {r : mm_R} (e : jd_40_s4 this x1 x2 h = some o) (K : jsm (fun s => (∀ lv : jL, lv 0 = some (jR (some this)) → lv 1 = some (jI s.1) → lv 2 = some (jI s.2) → ey (mm_xt L xs) 0 40 4 lv [] h r)) (fun x => (∀ lv : jL, lv 1 = some (jI x) → ey (mm_xt L xs) 0 40 35 lv [] h r)) o) : ∀ lv : jL, lv 0 = some (jR (some this)) → lv 1 = some (jI x1) → lv 2 = some (jI x2) → ey (mm_xt L xs) 0 40 4 lv [] h r := by
  intro lv f0 f1 f2
  unfold jd_40_s4 at e
  refine ey_iload_n (cd_40 rfl) f2 ?_
  refine ey_aload_n (cd_40 rfl) f0 ?_
  obtain ⟨v1, e2, e⟩ := jbind e
  refine ey_getf_i (cd_40 rfl) mt_40 rfl rfl rfl e2 ?_
  by_cases q3 : (jw v1) ≤ (jw x2)
  · rw [if_pos q3] at e
    refine ey_cge (cd_40 rfl) rfl rfl rfl q3 ?_
    cases e
    exact K lv f1
  · rw [if_neg q3] at e
    refine ey_nge (cd_40 rfl) rfl rfl rfl q3 ?_
    refine ey_iload_n (cd_40 rfl) f1 ?_
    refine ey_aload_n (cd_40 rfl) f0 ?_
    obtain ⟨r4, e5, e⟩ := jbind e
    refine ey_getf_r (cd_40 rfl) mt_40 rfl rfl rfl e5 ?_
    refine ey_iload_n (cd_40 rfl) f2 ?_
    obtain ⟨a6, e7, e⟩ := jbind e
    refine ey_rs (s0 := [jI x2, jR r4, jI x1]) (s1 := [jI x2, jR (some a6), jI x1]) (by rw [e7]) ?_
    obtain ⟨v8, e9, e⟩ := jbind e
    refine ey_iald (cd_40 rfl) e9 ?_
    have K12 : ∀ lv : jL, lv 0 = some (jR (some this)) → lv 2 = some (jI x2) → ey (mm_xt L xs) 0 40 27 lv [jI (if (jw v8) < 0 then 0 else 1), jI x1] h r := by
      intro lv g0 g2
      refine ey_iadd (cd_40 rfl) ?_
      obtain ⟨z10, e11, e⟩ := jbind e
      refine ey_rs (s0 := [jI (x1 + (if (jw v8) < 0 then 0 else 1))]) (s1 := [jI z10]) (by rw [show (x1 + (if (jw v8) < 0 then 0 else 1)) = z10 from Option.some.inj e11]) ?_
      refine ey_istore_n (cd_40 rfl) mt_40 rfl ?_
      refine ey_iinc (cd_40 rfl) mt_40 rfl g2 ?_
      refine ey_goto (cd_40 rfl) rfl ?_
      cases e
      exact K (jup (jup lv 1 (jI z10)) 2 (jI (x2 + 1))) (jup_o rfl (jup_pr (lv := lv) (j := 0) (v := jI z10) (z := (some this)) g0)) (jup_pi (lv := (jup lv 1 (jI z10))) (j := 1) (v := jI (x2 + 1)) (z := z10) rfl) rfl
    by_cases q13 : (jw v8) < 0
    · refine ey_zlt (cd_40 rfl) rfl rfl q13 ?_
      refine ey_iconst (cd_40 rfl) ?_
      exact ey_rs (s0 := [jI 0, jI x1]) (s1 := [jI (if (jw v8) < 0 then 0 else 1), jI x1]) (by rw [show ((if (jw v8) < 0 then 0 else 1) : Int) = 0 from (if_pos q13)]) (K12 lv f0 f2)
    · refine ey_ylt (cd_40 rfl) rfl rfl q13 ?_
      refine ey_iconst (cd_40 rfl) ?_
      refine ey_goto (cd_40 rfl) rfl ?_
      exact ey_rs (s0 := [jI 1, jI x1]) (s1 := [jI (if (jw v8) < 0 then 0 else 1), jI x1]) (by rw [show ((if (jw v8) < 0 then 0 else 1) : Int) = 1 from (if_neg q13)]) (K12 lv f0 f2)
theorem jk_40_l4 {L : Nat} {xs : Nat → Int32} {this : Nat} {x1 : Int} {x2 : Int} {h : jH} {x : Int} {r : mm_R} (e : jd_40_l4 this x1 x2 h = some x) (K : (∀ lv : jL, lv 1 = some (jI x) → ey (mm_xt L xs) 0 40 35 lv [] h r)) : ∀ lv : jL, lv 0 = some (jR (some this)) → lv 1 = some (jI x1) → lv 2 = some (jI x2) → ey (mm_xt L xs) 0 40 4 lv [] h r := by
  unfold jd_40_l4 at e
  exact jlp_ok2 (P := fun s => ∀ lv : jL, lv 0 = some (jR (some this)) → lv 1 = some (jI s.1) → lv 2 = some (jI s.2) → ey (mm_xt L xs) 0 40 4 lv [] h r) (Q := fun x => (∀ lv : jL, lv 1 = some (jI x) → ey (mm_xt L xs) 0 40 35 lv [] h r)) (fun s q hq hk => jk_40_s4 hq hk) jfu _ x e K
set_option maxRecDepth 100000 in
theorem ok_40 {L : Nat} {xs : Nat → Int32} {this : Nat}  {h : jH} {o : Int} (e : jd_40 this  h = some o) : mm_Runs (mm_xt L xs) 1 40 ([jR (some this)].map jcv) (jaH h) (.inl (some (jcv (jI o)), jaH h)) := by
  refine ey_run0 _ mt_40 (jsl_s rfl) ?_
  unfold jd_40 at e
  refine ey_iconst (cd_40 rfl) ?_
  refine ey_istore_n (cd_40 rfl) mt_40 rfl ?_
  refine ey_iconst (cd_40 rfl) ?_
  refine ey_istore_n (cd_40 rfl) mt_40 rfl ?_
  obtain ⟨x14, e15, e⟩ := jbind e
  refine jk_40_l4 e15 ?_ (jup (jup (jlf (jla 0 [jR (some this)])) 1 (jI 0)) 2 (jI 0)) (jup_o rfl (jup_pr (lv := (jlf (jla 0 [jR (some this)]))) (j := 0) (v := jI 0) (z := (some this)) rfl)) (jup_pi (lv := (jup (jlf (jla 0 [jR (some this)])) 1 (jI 0))) (j := 1) (v := jI 0) (z := 0) rfl) rfl
  intro lv g1
  refine ey_iload_n (cd_40 rfl) g1 ?_
  cases e
  exact ey_reti (cd_40 rfl) mt_40 rfl
theorem cd_41 {pc : Nat} {i : Instr × Nat} (h : mm_lk mm_c41 pc = some i) : mm_cd 41 pc = some i := h
theorem mt_41 : mm_MT 41 = (2, 1, some .int, 0, 0, []) := rfl
set_option maxRecDepth 100000 in
theorem ok_41 {L : Nat} {xs : Nat → Int32} {this : Nat}  {h : jH} {o : Int} (e : jd_41 this  h = some o) : mm_Runs (mm_xt L xs) 1 41 ([jR (some this)].map jcv) (jaH h) (.inl (some (jcv (jI o)), jaH h)) := by
  refine ey_run0 _ mt_41 (jsl_s rfl) ?_
  unfold jd_41 at e
  refine ey_aload_n (cd_41 rfl) rfl ?_
  obtain ⟨v1, e2, e⟩ := jbind e
  refine ey_getf_i (cd_41 rfl) mt_41 rfl rfl rfl e2 ?_
  refine ey_bipush (cd_41 rfl) (by decide) ?_
  refine ey_idiv (cd_41 rfl) (by decide) ?_
  refine ey_aload_n (cd_41 rfl) rfl ?_
  obtain ⟨v3, e4, e⟩ := jbind e
  refine ey_getf_i (cd_41 rfl) mt_41 rfl rfl rfl e4 ?_
  refine ey_bipush (cd_41 rfl) (by decide) ?_
  refine ey_idiv (cd_41 rfl) (by decide) ?_
  refine ey_imul (cd_41 rfl) ?_
  cases e
  exact ey_reti (cd_41 rfl) mt_41 rfl
theorem cd_42 {pc : Nat} {i : Instr × Nat} (h : mm_lk mm_c42 pc = some i) : mm_cd 42 pc = some i := h
theorem mt_42 : mm_MT 42 = (2, 2, some .int, 1, 0, []) := rfl
set_option maxRecDepth 100000 in
theorem ok_42 {L : Nat} {xs : Nat → Int32} {this : Nat} {p0 : Int} {h : jH} {o : Int} (e : jd_42 this p0 h = some o) : mm_Runs (mm_xt L xs) 1 42 ([jR (some this), jI p0].map jcv) (jaH h) (.inl (some (jcv (jI o)), jaH h)) := by
  refine ey_run0 _ mt_42 (jsl_s rfl) ?_
  unfold jd_42 at e
  refine ey_aload_n (cd_42 rfl) rfl ?_
  obtain ⟨r1, e2, e⟩ := jbind e
  refine ey_getf_r (cd_42 rfl) mt_42 rfl rfl rfl e2 ?_
  refine ey_iload_n (cd_42 rfl) rfl ?_
  obtain ⟨a3, e4, e⟩ := jbind e
  refine ey_rs (s0 := [jI p0, jR r1]) (s1 := [jI p0, jR (some a3)]) (by rw [e4]) ?_
  obtain ⟨v5, e6, e⟩ := jbind e
  refine ey_iald (cd_42 rfl) e6 ?_
  refine ey_iconst (cd_42 rfl) ?_
  refine ey_iadd (cd_42 rfl) ?_
  refine ey_aload_n (cd_42 rfl) rfl ?_
  obtain ⟨r7, e8, e⟩ := jbind e
  refine ey_getf_r (cd_42 rfl) mt_42 rfl rfl rfl e8 ?_
  refine ey_iload_n (cd_42 rfl) rfl ?_
  obtain ⟨a9, e10, e⟩ := jbind e
  refine ey_rs (s0 := [jI p0, jR r7, jI (v5 + 5)]) (s1 := [jI p0, jR (some a9), jI (v5 + 5)]) (by rw [e10]) ?_
  obtain ⟨v11, e12, e⟩ := jbind e
  refine ey_iald (cd_42 rfl) e12 ?_
  refine ey_iadd (cd_42 rfl) ?_
  cases e
  exact ey_reti (cd_42 rfl) mt_42 rfl
theorem cd_104 {pc : Nat} {i : Instr × Nat} (h : mm_lk mm_c104 pc = some i) : mm_cd 104 pc = some i := h
theorem mt_104 : mm_MT 104 = (6, 5, some .int, 3, 0, []) := rfl
set_option maxRecDepth 100000 in
theorem ok_104 {L : Nat} {xs : Nat → Int32} {this : Nat} {p0 : Int} {p1 : Int} {p2 : Int} {h : jH} {o : Int} (e : jd_104 this p0 p1 p2 h = some o) : mm_Runs (mm_xt L xs) 1 104 ([jR (some this), jI p0, jI p1, jI p2].map jcv) (jaH h) (.inl (some (jcv (jI o)), jaH h)) := by
  refine ey_run0 _ mt_104 (jsl_s rfl) ?_
  unfold jd_104 at e
  refine ey_iload_n (cd_104 rfl) rfl ?_
  have K7 : ∀ lv : jL, lv 0 = some (jR (some this)) → lv 2 = some (jI p1) → lv 3 = some (jI p2) → ey (mm_xt L xs) 0 104 10 lv [jI (if (jw p0) = 0 then 8 else 4)] h (.inl (some (jcv (jI o)), jaH h)) := by
    intro lv g0 g2 g3
    refine ey_istore (cd_104 rfl) mt_104 rfl ?_
    refine ey_iload_n (cd_104 rfl) (jup_pi (lv := lv) (j := 3) (v := jI (if (jw p0) = 0 then 8 else 4)) (z := p2) g3) ?_
    refine ey_iload (cd_104 rfl) rfl ?_
    obtain ⟨u1, e2, e⟩ := jbind e
    refine ey_idiv (cd_104 rfl) (jnz_s e2) ?_
    refine ey_aload_n (cd_104 rfl) g0 ?_
    obtain ⟨v3, e4, e⟩ := jbind e
    refine ey_getf_i (cd_104 rfl) mt_104 rfl rfl rfl e4 ?_
    refine ey_bipush (cd_104 rfl) (by decide) ?_
    refine ey_idiv (cd_104 rfl) (by decide) ?_
    refine ey_imul (cd_104 rfl) ?_
    refine ey_iload_n (cd_104 rfl) g2 ?_
    refine ey_iload (cd_104 rfl) rfl ?_
    obtain ⟨u5, e6, e⟩ := jbind e
    refine ey_idiv (cd_104 rfl) (jnz_s e6) ?_
    refine ey_iadd (cd_104 rfl) ?_
    cases e
    exact ey_reti (cd_104 rfl) mt_104 rfl
  by_cases q8 : (jw p0) = 0
  · refine ey_yne (cd_104 rfl) rfl rfl (fun w => w q8) ?_
    refine ey_bipush (cd_104 rfl) (by decide) ?_
    refine ey_goto (cd_104 rfl) rfl ?_
    exact ey_rs (s0 := [jI 8]) (s1 := [jI (if (jw p0) = 0 then 8 else 4)]) (by rw [show ((if (jw p0) = 0 then 8 else 4) : Int) = 8 from (if_pos q8)]) (K7 (jlf (jla 0 [jR (some this), jI p0, jI p1, jI p2])) rfl rfl rfl)
  · refine ey_zne (cd_104 rfl) rfl rfl q8 ?_
    refine ey_iconst (cd_104 rfl) ?_
    exact ey_rs (s0 := [jI 4]) (s1 := [jI (if (jw p0) = 0 then 8 else 4)]) (by rw [show ((if (jw p0) = 0 then 8 else 4) : Int) = 4 from (if_neg q8)]) (K7 (jlf (jla 0 [jR (some this), jI p0, jI p1, jI p2])) rfl rfl rfl)
theorem cd_43 {pc : Nat} {i : Instr × Nat} (h : mm_lk mm_c43 pc = some i) : mm_cd 43 pc = some i := h
theorem mt_43 : mm_MT 43 = (2, 7, some .boolean, 4, 0, []) := rfl
set_option maxRecDepth 100000 in
theorem ok_43 {L : Nat} {xs : Nat → Int32} {this : Nat} {p0 : Int} {p1 : Int} {p2 : Int} {p3 : Int} {h : jH} {o : Int} (e : jd_43 this p0 p1 p2 p3 h = some o) : mm_Runs (mm_xt L xs) 2 43 ([jR (some this), jI p0, jI p1, jI p2, jI p3].map jcv) (jaH h) (.inl (some (jcv (jI o)), jaH h)) := by
  refine ey_run0 _ mt_43 (jsl_s rfl) ?_
  unfold jd_43 at e
  refine ey_aload_n (cd_43 rfl) rfl ?_
  obtain ⟨r1, e2, e⟩ := jbind e
  refine ey_getf_r (cd_43 rfl) mt_43 rfl rfl rfl e2 ?_
  refine ey_iload_n (cd_43 rfl) rfl ?_
  obtain ⟨a3, e4, e⟩ := jbind e
  refine ey_rs (s0 := [jI p0, jR r1]) (s1 := [jI p0, jR (some a3)]) (by rw [e4]) ?_
  obtain ⟨v5, e6, e⟩ := jbind e
  refine ey_iald (cd_43 rfl) e6 ?_
  refine ey_istore (cd_43 rfl) mt_43 rfl ?_
  refine ey_iload (cd_43 rfl) rfl ?_
  by_cases q7 : 0 ≤ (jw v5)
  · rw [if_pos q7] at e
    refine ey_zge (cd_43 rfl) rfl rfl q7 ?_
    refine ey_aload_n (cd_43 rfl) rfl ?_
    obtain ⟨r8, e9, e⟩ := jbind e
    refine ey_getf_r (cd_43 rfl) mt_43 rfl rfl rfl e9 ?_
    refine ey_iload_n (cd_43 rfl) rfl ?_
    obtain ⟨a10, e11, e⟩ := jbind e
    refine ey_rs (s0 := [jI p0, jR r8]) (s1 := [jI p0, jR (some a10)]) (by rw [e11]) ?_
    obtain ⟨r12, e13, e⟩ := jbind e
    refine ey_aald (cd_43 rfl) (by decide) e13 ?_
    refine ey_astore (cd_43 rfl) mt_43 rfl ?_
    refine ey_aload_n (cd_43 rfl) rfl ?_
    obtain ⟨v14, e15, e⟩ := jbind e
    refine ey_getf_i (cd_43 rfl) mt_43 rfl rfl rfl e15 ?_
    by_cases q16 : (jw v14) = 0
    · rw [if_pos q16] at e
      refine ey_lsw (off := 25) (cd_43 rfl) (by decide) (Eq.trans (congrArg (Op.lookupswitch.offset _ _) q16) rfl) rfl ?_
      refine ey_aload (cd_43 rfl) rfl ?_
      refine ey_iload_n (cd_43 rfl) rfl ?_
      refine ey_iload_n (cd_43 rfl) rfl ?_
      refine ey_iload (cd_43 rfl) (jup_o rfl (jup_pi (lv := (jlf (jla 0 [jR (some this), jI p0, jI p1, jI p2, jI p3]))) (j := 4) (v := jI v5) (z := p3) rfl)) ?_
      obtain ⟨a17, e18, e⟩ := jbind e
      refine ey_rs (s0 := [jI p3, jI p2, jI p1, jR r12]) (s1 := [jI p3, jI p2, jI p1, jR (some a17)]) (by rw [e18]) ?_
      obtain ⟨u19, e20, e⟩ := jbind e
      obtain ⟨v21, e22, e⟩ := jbind e
      refine ey_cv (s0 := [jI p3, jI p2, jI p1, jR (some a17)]) (s1 := []) (st' := [jI v21]) (cd_43 rfl) mt_43 mt_104 rfl rfl rfl (jck_s e20) rfl (jsml_s rfl) rfl (ok_104 e22) ?_
      refine ey_iload (cd_43 rfl) (jup_pi (lv := (jup (jlf (jla 0 [jR (some this), jI p0, jI p1, jI p2, jI p3])) 5 (jI v5))) (j := 5) (v := jR r12) (z := v5) rfl) ?_
      have K23 : ∀ lv : jL, ey (mm_xt L xs) 1 43 71 lv [jI (if (jw v21) < (jw v5) then 0 else 1)] h (.inl (some (jcv (jI o)), jaH h)) := by
        intro lv 
        cases e
        exact ey_retz (cd_43 rfl) mt_43 rfl (jbo_ite (Or.inl rfl) (Or.inr rfl))
      by_cases q24 : (jw v21) < (jw v5)
      · refine ey_clt (cd_43 rfl) rfl rfl rfl q24 ?_
        refine ey_iconst (cd_43 rfl) ?_
        exact ey_rs (s0 := [jI 0]) (s1 := [jI (if (jw v21) < (jw v5) then 0 else 1)]) (by rw [show ((if (jw v21) < (jw v5) then 0 else 1) : Int) = 0 from (if_pos q24)]) (K23 (jup (jup (jlf (jla 0 [jR (some this), jI p0, jI p1, jI p2, jI p3])) 5 (jI v5)) 6 (jR r12)) )
      · refine ey_nlt (cd_43 rfl) rfl rfl rfl q24 ?_
        refine ey_iconst (cd_43 rfl) ?_
        refine ey_goto (cd_43 rfl) rfl ?_
        exact ey_rs (s0 := [jI 1]) (s1 := [jI (if (jw v21) < (jw v5) then 0 else 1)]) (by rw [show ((if (jw v21) < (jw v5) then 0 else 1) : Int) = 1 from (if_neg q24)]) (K23 (jup (jup (jlf (jla 0 [jR (some this), jI p0, jI p1, jI p2, jI p3])) 5 (jI v5)) 6 (jR r12)) )
    · rw [if_neg q16] at e
      by_cases q25 : (jw v14) = 1
      · rw [if_pos q25] at e
        refine ey_lsw (off := 45) (cd_43 rfl) (by decide) (Eq.trans (congrArg (Op.lookupswitch.offset _ _) q25) rfl) rfl ?_
        refine ey_iload_n (cd_43 rfl) rfl ?_
        refine ey_iload (cd_43 rfl) (jup_pi (lv := (jup (jlf (jla 0 [jR (some this), jI p0, jI p1, jI p2, jI p3])) 5 (jI v5))) (j := 5) (v := jR r12) (z := v5) rfl) ?_
        have K26 : ∀ lv : jL, ey (mm_xt L xs) 1 43 83 lv [jI (if (jw p1) < (jw v5) then 0 else 1)] h (.inl (some (jcv (jI o)), jaH h)) := by
          intro lv 
          cases e
          exact ey_retz (cd_43 rfl) mt_43 rfl (jbo_ite (Or.inl rfl) (Or.inr rfl))
        by_cases q27 : (jw p1) < (jw v5)
        · refine ey_clt (cd_43 rfl) rfl rfl rfl q27 ?_
          refine ey_iconst (cd_43 rfl) ?_
          exact ey_rs (s0 := [jI 0]) (s1 := [jI (if (jw p1) < (jw v5) then 0 else 1)]) (by rw [show ((if (jw p1) < (jw v5) then 0 else 1) : Int) = 0 from (if_pos q27)]) (K26 (jup (jup (jlf (jla 0 [jR (some this), jI p0, jI p1, jI p2, jI p3])) 5 (jI v5)) 6 (jR r12)) )
        · refine ey_nlt (cd_43 rfl) rfl rfl rfl q27 ?_
          refine ey_iconst (cd_43 rfl) ?_
          refine ey_goto (cd_43 rfl) rfl ?_
          exact ey_rs (s0 := [jI 1]) (s1 := [jI (if (jw p1) < (jw v5) then 0 else 1)]) (by rw [show ((if (jw p1) < (jw v5) then 0 else 1) : Int) = 1 from (if_neg q27)]) (K26 (jup (jup (jlf (jla 0 [jR (some this), jI p0, jI p1, jI p2, jI p3])) 5 (jI v5)) 6 (jR r12)) )
      · rw [if_neg q25] at e
        refine ey_lsw (off := 57) (cd_43 rfl) (by decide) (by simp only [Op.lookupswitch.offset, if_neg (fun w => q16 (Eq.symm w)), if_neg (fun w => q25 (Eq.symm w))]) rfl ?_
        refine ey_aload (cd_43 rfl) rfl ?_
        refine ey_iload_n (cd_43 rfl) rfl ?_
        obtain ⟨a28, e29, e⟩ := jbind e
        refine ey_rs (s0 := [jI p1, jR r12]) (s1 := [jI p1, jR (some a28)]) (by rw [e29]) ?_
        obtain ⟨u30, e31, e⟩ := jbind e
        obtain ⟨v32, e33, e⟩ := jbind e
        refine ey_cv (s0 := [jI p1, jR (some a28)]) (s1 := []) (st' := [jI v32]) (cd_43 rfl) mt_43 mt_98 rfl rfl rfl (jck_s e31) rfl (jsml_s rfl) rfl (ok_98 e33) ?_
        refine ey_iload (cd_43 rfl) (jup_o rfl (jup_pi (lv := (jlf (jla 0 [jR (some this), jI p0, jI p1, jI p2, jI p3]))) (j := 4) (v := jI v5) (z := p3) rfl)) ?_
        refine ey_aload (cd_43 rfl) rfl ?_
        refine ey_iload_n (cd_43 rfl) rfl ?_
        obtain ⟨a34, e35, e⟩ := jbind e
        refine ey_rs (s0 := [jI p1, jR r12, jI p3, jI v32]) (s1 := [jI p1, jR (some a34), jI p3, jI v32]) (by rw [e35]) ?_
        obtain ⟨u36, e37, e⟩ := jbind e
        obtain ⟨v38, e39, e⟩ := jbind e
        refine ey_cv (s0 := [jI p1, jR (some a34), jI p3, jI v32]) (s1 := [jI p3, jI v32]) (st' := [jI v38, jI p3, jI v32]) (cd_43 rfl) mt_43 mt_96 rfl rfl rfl (jck_s e37) rfl (jsml_s rfl) rfl (ok_96 e39) ?_
        refine ey_imul (cd_43 rfl) ?_
        refine ey_iadd (cd_43 rfl) ?_
        refine ey_iload_n (cd_43 rfl) rfl ?_
        refine ey_iadd (cd_43 rfl) ?_
        refine ey_iload (cd_43 rfl) (jup_pi (lv := (jup (jlf (jla 0 [jR (some this), jI p0, jI p1, jI p2, jI p3])) 5 (jI v5))) (j := 5) (v := jR r12) (z := v5) rfl) ?_
        have K40 : ∀ lv : jL, ey (mm_xt L xs) 1 43 112 lv [jI (if (jw ((v32 + (p3 * v38)) + p2)) < (jw v5) then 0 else 1)] h (.inl (some (jcv (jI o)), jaH h)) := by
          intro lv 
          cases e
          exact ey_retz (cd_43 rfl) mt_43 rfl (jbo_ite (Or.inl rfl) (Or.inr rfl))
        by_cases q41 : (jw ((v32 + (p3 * v38)) + p2)) < (jw v5)
        · refine ey_clt (cd_43 rfl) rfl rfl rfl q41 ?_
          refine ey_iconst (cd_43 rfl) ?_
          exact ey_rs (s0 := [jI 0]) (s1 := [jI (if (jw ((v32 + (p3 * v38)) + p2)) < (jw v5) then 0 else 1)]) (by rw [show ((if (jw ((v32 + (p3 * v38)) + p2)) < (jw v5) then 0 else 1) : Int) = 0 from (if_pos q41)]) (K40 (jup (jup (jlf (jla 0 [jR (some this), jI p0, jI p1, jI p2, jI p3])) 5 (jI v5)) 6 (jR r12)) )
        · refine ey_nlt (cd_43 rfl) rfl rfl rfl q41 ?_
          refine ey_iconst (cd_43 rfl) ?_
          refine ey_goto (cd_43 rfl) rfl ?_
          exact ey_rs (s0 := [jI 1]) (s1 := [jI (if (jw ((v32 + (p3 * v38)) + p2)) < (jw v5) then 0 else 1)]) (by rw [show ((if (jw ((v32 + (p3 * v38)) + p2)) < (jw v5) then 0 else 1) : Int) = 1 from (if_neg q41)]) (K40 (jup (jup (jlf (jla 0 [jR (some this), jI p0, jI p1, jI p2, jI p3])) 5 (jI v5)) 6 (jR r12)) )
  · rw [if_neg q7] at e
    refine ey_yge (cd_43 rfl) rfl rfl q7 ?_
    refine ey_iconst (cd_43 rfl) ?_
    cases e
    exact ey_retz (cd_43 rfl) mt_43 rfl (Or.inl rfl)
theorem cd_44 {pc : Nat} {i : Instr × Nat} (h : mm_lk mm_c44 pc = some i) : mm_cd 44 pc = some i := h
theorem mt_44 : mm_MT 44 = (3, 1, none, 0, 2, []) := rfl
set_option maxRecDepth 100000 in
theorem ok_44 {L : Nat} {xs : Nat → Int32} {this : Nat}  {h : jH} {o : jH} (e : jd_44 this  h = some o) : mm_Runs (mm_xt L xs) 1 44 ([jR (some this)].map jcv) (jaH h) (.inl (none, jaH o)) := by
  refine ey_run0 _ mt_44 (jsl_s rfl) ?_
  unfold jd_44 at e
  refine ey_aload_n (cd_44 rfl) rfl ?_
  refine ey_oini (cd_44 rfl) mt_44 rfl (jsml_s rfl) ?_
  refine ey_aload_n (cd_44 rfl) rfl ?_
  refine ey_sipush (cd_44 rfl) (by decide) ?_
  obtain ⟨n1, e2, e⟩ := jbind e
  refine ey_newarr (cd_44 rfl) (by decide) e2 ?_
  obtain ⟨h3, e4, e⟩ := jbind e
  refine ey_putf_r (cd_44 rfl) mt_44 rfl rfl rfl e4 ?_
  refine ey_aload_n (cd_44 rfl) rfl ?_
  refine ey_iconst (cd_44 rfl) ?_
  obtain ⟨h5, e6, e⟩ := jbind e
  refine ey_putf_i (cd_44 rfl) mt_44 rfl rfl rfl e6 ?_
  refine ey_aload_n (cd_44 rfl) rfl ?_
  refine ey_sipush (cd_44 rfl) (by decide) ?_
  obtain ⟨n7, e8, e⟩ := jbind e
  refine ey_newarr (cd_44 rfl) (by decide) e8 ?_
  obtain ⟨h9, e10, e⟩ := jbind e
  refine ey_putf_r (cd_44 rfl) mt_44 rfl rfl rfl e10 ?_
  refine ey_aload_n (cd_44 rfl) rfl ?_
  refine ey_null (cd_44 rfl) ?_
  obtain ⟨h11, e12, e⟩ := jbind e
  refine ey_putf_r (cd_44 rfl) mt_44 rfl rfl rfl e12 ?_
  refine ey_aload_n (cd_44 rfl) rfl ?_
  refine ey_iconst (cd_44 rfl) ?_
  obtain ⟨h13, e14, e⟩ := jbind e
  refine ey_putf_i (cd_44 rfl) mt_44 rfl rfl rfl e14 ?_
  refine ey_aload_n (cd_44 rfl) rfl ?_
  refine ey_iconst (cd_44 rfl) ?_
  obtain ⟨h15, e16, e⟩ := jbind e
  refine ey_putf_i (cd_44 rfl) mt_44 rfl rfl rfl e16 ?_
  cases e
  exact ey_retv (cd_44 rfl) mt_44 rfl
theorem cd_46 {pc : Nat} {i : Instr × Nat} (h : mm_lk mm_c46 pc = some i) : mm_cd 46 pc = some i := h
theorem mt_46 : mm_MT 46 = (3, 2, none, 1, 0, []) := rfl
set_option maxRecDepth 100000 in
theorem jk_46_b27 {L : Nat} {xs : Nat → Int32} {this : Nat}  {h : jH} {o : jH} (e : jd_46_b27 this  h = some o) : ∀ lv : jL, ey (mm_xt L xs) 0 46 27 lv [] h (.inl (none, jaH o)) := by
  intro lv 
  unfold jd_46_b27 at e
  cases e
  exact ey_retv (cd_46 rfl) mt_46 rfl
set_option maxRecDepth 100000 in
theorem ok_46 {L : Nat} {xs : Nat → Int32} {this : Nat} {p0 : Int} {h : jH} {o : jH} (e : jd_46 this p0 h = some o) : mm_Runs (mm_xt L xs) 1 46 ([jR (some this), jI p0].map jcv) (jaH h) (.inl (none, jaH o)) := by
  refine ey_run0 _ mt_46 (jsl_s rfl) ?_
  unfold jd_46 at e
  refine ey_aload_n (cd_46 rfl) rfl ?_
  obtain ⟨v1, e2, e⟩ := jbind e
  refine ey_getf_i (cd_46 rfl) mt_46 rfl rfl rfl e2 ?_
  refine ey_sipush (cd_46 rfl) (by decide) ?_
  by_cases q3 : 200 ≤ (jw v1)
  · rw [if_pos q3] at e
    refine ey_cge (cd_46 rfl) rfl rfl (show jw 200 = 200 from by decide) q3 ?_
    exact jk_46_b27 e (jlf (jla 0 [jR (some this), jI p0])) 
  · rw [if_neg q3] at e
    refine ey_nge (cd_46 rfl) rfl rfl (show jw 200 = 200 from by decide) q3 ?_
    refine ey_aload_n (cd_46 rfl) rfl ?_
    obtain ⟨r4, e5, e⟩ := jbind e
    refine ey_getf_r (cd_46 rfl) mt_46 rfl rfl rfl e5 ?_
    refine ey_aload_n (cd_46 rfl) rfl ?_
    refine ey_dup (cd_46 rfl) rfl ?_
    obtain ⟨v6, e7, e⟩ := jbind e
    refine ey_getf_i (cd_46 rfl) mt_46 rfl rfl rfl e7 ?_
    refine ey_dupx1 (cd_46 rfl) rfl rfl ?_
    refine ey_iconst (cd_46 rfl) ?_
    refine ey_iadd (cd_46 rfl) ?_
    obtain ⟨h8, e9, e⟩ := jbind e
    refine ey_putf_i (cd_46 rfl) mt_46 rfl rfl rfl e9 ?_
    refine ey_iload_n (cd_46 rfl) rfl ?_
    obtain ⟨a10, e11, e⟩ := jbind e
    refine ey_rs (s0 := [jI p0, jI v6, jR r4]) (s1 := [jI p0, jI v6, jR (some a10)]) (by rw [e11]) ?_
    obtain ⟨h12, e13, e⟩ := jbind e
    refine ey_iast (cd_46 rfl) e13 ?_
    exact jk_46_b27 e (jlf (jla 0 [jR (some this), jI p0])) 
theorem cd_47 {pc : Nat} {i : Instr × Nat} (h : mm_lk mm_c47 pc = some i) : mm_cd 47 pc = some i := h
theorem mt_47 : mm_MT 47 = (3, 1, some .int, 0, 0, []) := rfl
set_option maxRecDepth 100000 in
theorem jk_47_s0 {L : Nat} {xs : Nat → Int32} {this : Nat}  {h : jH} {o : (jH ⊕ jH)} {r : mm_R} (e : jd_47_s0 this  h = some o) (K : jsm (fun s => (∀ lv : jL, lv 0 = some (jR (some this)) → ey (mm_xt L xs) 0 47 0 lv [] s r)) (fun x => (∀ lv : jL, lv 0 = some (jR (some this)) → ey (mm_xt L xs) 0 47 38 lv [] x r)) o) : ∀ lv : jL, lv 0 = some (jR (some this)) → ey (mm_xt L xs) 0 47 0 lv [] h r := by
  intro lv f0
  unfold jd_47_s0 at e
  refine ey_aload_n (cd_47 rfl) f0 ?_
  obtain ⟨v1, e2, e⟩ := jbind e
  refine ey_getf_i (cd_47 rfl) mt_47 rfl rfl rfl e2 ?_
  refine ey_aload_n (cd_47 rfl) f0 ?_
  obtain ⟨v3, e4, e⟩ := jbind e
  refine ey_getf_i (cd_47 rfl) mt_47 rfl rfl rfl e4 ?_
  by_cases q5 : (jw v3) ≤ (jw v1)
  · rw [if_pos q5] at e
    refine ey_cge (cd_47 rfl) rfl rfl rfl q5 ?_
    cases e
    exact K lv f0
  · rw [if_neg q5] at e
    refine ey_nge (cd_47 rfl) rfl rfl rfl q5 ?_
    refine ey_aload_n (cd_47 rfl) f0 ?_
    obtain ⟨r6, e7, e⟩ := jbind e
    refine ey_getf_r (cd_47 rfl) mt_47 rfl rfl rfl e7 ?_
    refine ey_aload_n (cd_47 rfl) f0 ?_
    obtain ⟨v8, e9, e⟩ := jbind e
    refine ey_getf_i (cd_47 rfl) mt_47 rfl rfl rfl e9 ?_
    obtain ⟨a10, e11, e⟩ := jbind e
    refine ey_rs (s0 := [jI v8, jR r6]) (s1 := [jI v8, jR (some a10)]) (by rw [e11]) ?_
    obtain ⟨v12, e13, e⟩ := jbind e
    refine ey_bald (cd_47 rfl) e13 ?_
    refine ey_bipush (cd_47 rfl) (by decide) ?_
    by_cases q14 : (jw v12) = 32
    · rw [if_pos q14] at e
      refine ey_nne (cd_47 rfl) rfl rfl (show jw 32 = 32 from by decide) (fun w => w q14) ?_
      refine ey_aload_n (cd_47 rfl) f0 ?_
      refine ey_dup (cd_47 rfl) rfl ?_
      obtain ⟨v15, e16, e⟩ := jbind e
      refine ey_getf_i (cd_47 rfl) mt_47 rfl rfl rfl e16 ?_
      refine ey_iconst (cd_47 rfl) ?_
      refine ey_iadd (cd_47 rfl) ?_
      obtain ⟨h17, e18, e⟩ := jbind e
      refine ey_putf_i (cd_47 rfl) mt_47 rfl rfl rfl e18 ?_
      refine ey_goto (cd_47 rfl) rfl ?_
      cases e
      exact K lv f0
    · rw [if_neg q14] at e
      refine ey_cne (cd_47 rfl) rfl rfl (show jw 32 = 32 from by decide) q14 ?_
      cases e
      exact K lv f0
theorem jk_47_l0 {L : Nat} {xs : Nat → Int32} {this : Nat}  {h : jH} {x : jH} {r : mm_R} (e : jd_47_l0 this  h = some x) (K : (∀ lv : jL, lv 0 = some (jR (some this)) → ey (mm_xt L xs) 0 47 38 lv [] x r)) : ∀ lv : jL, lv 0 = some (jR (some this)) → ey (mm_xt L xs) 0 47 0 lv [] h r := by
  unfold jd_47_l0 at e
  exact jlp_ok2 (P := fun s => ∀ lv : jL, lv 0 = some (jR (some this)) → ey (mm_xt L xs) 0 47 0 lv [] s r) (Q := fun x => (∀ lv : jL, lv 0 = some (jR (some this)) → ey (mm_xt L xs) 0 47 38 lv [] x r)) (fun s q hq hk => jk_47_s0 hq hk) jfu _ x e K
set_option maxRecDepth 100000 in
theorem jk_47_b62 {L : Nat} {xs : Nat → Int32} {this : Nat} {y0 : Int} {h : jH} {o : (Int × jH)} (e : jd_47_b62 this y0 h = some o) : ∀ lv : jL, ey (mm_xt L xs) 0 47 62 lv [jI y0] h (.inl (some (jcv (jI o.1)), jaH o.2)) := by
  intro lv 
  unfold jd_47_b62 at e
  cases e
  exact ey_reti (cd_47 rfl) mt_47 rfl
set_option maxRecDepth 100000 in
theorem ok_47 {L : Nat} {xs : Nat → Int32} {this : Nat}  {h : jH} {o : (Int × jH)} (e : jd_47 this  h = some o) : mm_Runs (mm_xt L xs) 1 47 ([jR (some this)].map jcv) (jaH h) (.inl (some (jcv (jI o.1)), jaH o.2)) := by
  refine ey_run0 _ mt_47 (jsl_s rfl) ?_
  unfold jd_47 at e
  obtain ⟨x19, e20, e⟩ := jbind e
  refine jk_47_l0 e20 ?_ (jlf (jla 0 [jR (some this)])) rfl
  intro lv g0
  refine ey_aload_n (cd_47 rfl) g0 ?_
  obtain ⟨v21, e22, e⟩ := jbind e
  refine ey_getf_i (cd_47 rfl) mt_47 rfl rfl rfl e22 ?_
  refine ey_aload_n (cd_47 rfl) g0 ?_
  obtain ⟨v23, e24, e⟩ := jbind e
  refine ey_getf_i (cd_47 rfl) mt_47 rfl rfl rfl e24 ?_
  by_cases q25 : (jw v23) ≤ (jw v21)
  · rw [if_pos q25] at e
    refine ey_cge (cd_47 rfl) rfl rfl rfl q25 ?_
    refine ey_iconst (cd_47 rfl) ?_
    exact jk_47_b62 e lv 
  · rw [if_neg q25] at e
    refine ey_nge (cd_47 rfl) rfl rfl rfl q25 ?_
    refine ey_aload_n (cd_47 rfl) g0 ?_
    obtain ⟨r26, e27, e⟩ := jbind e
    refine ey_getf_r (cd_47 rfl) mt_47 rfl rfl rfl e27 ?_
    refine ey_aload_n (cd_47 rfl) g0 ?_
    obtain ⟨v28, e29, e⟩ := jbind e
    refine ey_getf_i (cd_47 rfl) mt_47 rfl rfl rfl e29 ?_
    obtain ⟨a30, e31, e⟩ := jbind e
    refine ey_rs (s0 := [jI v28, jR r26]) (s1 := [jI v28, jR (some a30)]) (by rw [e31]) ?_
    obtain ⟨v32, e33, e⟩ := jbind e
    refine ey_bald (cd_47 rfl) e33 ?_
    refine ey_goto (cd_47 rfl) rfl ?_
    exact jk_47_b62 e lv 
theorem cd_53 {pc : Nat} {i : Instr × Nat} (h : mm_lk mm_c53 pc = some i) : mm_cd 53 pc = some i := h
theorem mt_53 : mm_MT 53 = (3, 1, some .boolean, 0, 0, []) := rfl
set_option maxRecDepth 100000 in
theorem jk_53_b44 {L : Nat} {xs : Nat → Int32} {this : Nat} {y0 : Int} {h : jH} {o : Int} (e : jd_53_b44 this y0 h = some o) : ∀ lv : jL, ey (mm_xt L xs) 0 53 44 lv [jI y0] h (.inl (some (jcv (jI o)), jaH h)) := by
  intro lv 
  unfold jd_53_b44 at e
  obtain ⟨u6, e7, e⟩ := jbind e
  cases e
  exact ey_retz (cd_53 rfl) mt_53 rfl (jbc_s e7)
set_option maxRecDepth 100000 in
theorem jk_53_b43 {L : Nat} {xs : Nat → Int32} {this : Nat}  {h : jH} {o : Int} (e : jd_53_b43 this  h = some o) : ∀ lv : jL, ey (mm_xt L xs) 0 53 43 lv [] h (.inl (some (jcv (jI o)), jaH h)) := by
  intro lv 
  unfold jd_53_b43 at e
  refine ey_iconst (cd_53 rfl) ?_
  exact jk_53_b44 e lv 
set_option maxRecDepth 100000 in
theorem ok_53 {L : Nat} {xs : Nat → Int32} {this : Nat}  {h : jH} {o : Int} (e : jd_53 this  h = some o) : mm_Runs (mm_xt L xs) 1 53 ([jR (some this)].map jcv) (jaH h) (.inl (some (jcv (jI o)), jaH h)) := by
  refine ey_run0 _ mt_53 (jsl_s rfl) ?_
  unfold jd_53 at e
  refine ey_aload_n (cd_53 rfl) rfl ?_
  obtain ⟨v1, e2, e⟩ := jbind e
  refine ey_getf_i (cd_53 rfl) mt_53 rfl rfl rfl e2 ?_
  refine ey_aload_n (cd_53 rfl) rfl ?_
  obtain ⟨v3, e4, e⟩ := jbind e
  refine ey_getf_i (cd_53 rfl) mt_53 rfl rfl rfl e4 ?_
  by_cases q5 : (jw v3) ≤ (jw v1)
  · rw [if_pos q5] at e
    refine ey_cge (cd_53 rfl) rfl rfl rfl q5 ?_
    exact jk_53_b43 e (jlf (jla 0 [jR (some this)])) 
  · rw [if_neg q5] at e
    refine ey_nge (cd_53 rfl) rfl rfl rfl q5 ?_
    refine ey_aload_n (cd_53 rfl) rfl ?_
    obtain ⟨r8, e9, e⟩ := jbind e
    refine ey_getf_r (cd_53 rfl) mt_53 rfl rfl rfl e9 ?_
    refine ey_aload_n (cd_53 rfl) rfl ?_
    obtain ⟨v10, e11, e⟩ := jbind e
    refine ey_getf_i (cd_53 rfl) mt_53 rfl rfl rfl e11 ?_
    obtain ⟨a12, e13, e⟩ := jbind e
    refine ey_rs (s0 := [jI v10, jR r8]) (s1 := [jI v10, jR (some a12)]) (by rw [e13]) ?_
    obtain ⟨v14, e15, e⟩ := jbind e
    refine ey_bald (cd_53 rfl) e15 ?_
    refine ey_bipush (cd_53 rfl) (by decide) ?_
    by_cases q16 : (jw v14) < 48
    · rw [if_pos q16] at e
      refine ey_clt (cd_53 rfl) rfl rfl (show jw 48 = 48 from by decide) q16 ?_
      exact jk_53_b43 e (jlf (jla 0 [jR (some this)])) 
    · rw [if_neg q16] at e
      refine ey_nlt (cd_53 rfl) rfl rfl (show jw 48 = 48 from by decide) q16 ?_
      refine ey_aload_n (cd_53 rfl) rfl ?_
      obtain ⟨r17, e18, e⟩ := jbind e
      refine ey_getf_r (cd_53 rfl) mt_53 rfl rfl rfl e18 ?_
      refine ey_aload_n (cd_53 rfl) rfl ?_
      obtain ⟨v19, e20, e⟩ := jbind e
      refine ey_getf_i (cd_53 rfl) mt_53 rfl rfl rfl e20 ?_
      obtain ⟨a21, e22, e⟩ := jbind e
      refine ey_rs (s0 := [jI v19, jR r17]) (s1 := [jI v19, jR (some a21)]) (by rw [e22]) ?_
      obtain ⟨v23, e24, e⟩ := jbind e
      refine ey_bald (cd_53 rfl) e24 ?_
      refine ey_bipush (cd_53 rfl) (by decide) ?_
      have K25 : ∀ lv : jL, ey (mm_xt L xs) 0 53 44 lv [jI (if 57 < (jw v23) then 0 else 1)] h (.inl (some (jcv (jI o)), jaH h)) := by
        intro lv 
        exact jk_53_b44 e lv 
      by_cases q26 : 57 < (jw v23)
      · refine ey_cgt (cd_53 rfl) rfl rfl (show jw 57 = 57 from by decide) q26 ?_
        refine ey_iconst (cd_53 rfl) ?_
        exact ey_rs (s0 := [jI 0]) (s1 := [jI (if 57 < (jw v23) then 0 else 1)]) (by rw [show ((if 57 < (jw v23) then 0 else 1) : Int) = 0 from (if_pos q26)]) (K25 (jlf (jla 0 [jR (some this)])) )
      · refine ey_ngt (cd_53 rfl) rfl rfl (show jw 57 = 57 from by decide) q26 ?_
        refine ey_iconst (cd_53 rfl) ?_
        refine ey_goto (cd_53 rfl) rfl ?_
        exact ey_rs (s0 := [jI 1]) (s1 := [jI (if 57 < (jw v23) then 0 else 1)]) (by rw [show ((if 57 < (jw v23) then 0 else 1) : Int) = 1 from (if_neg q26)]) (K25 (jlf (jla 0 [jR (some this)])) )
theorem cd_52 {pc : Nat} {i : Instr × Nat} (h : mm_lk mm_c52 pc = some i) : mm_cd 52 pc = some i := h
theorem mt_52 : mm_MT 52 = (3, 3, some .boolean, 0, 0, []) := rfl
set_option maxRecDepth 100000 in
theorem jk_52_s4 {L : Nat} {xs : Nat → Int32} {this : Nat} {x1 : Int} {x2 : Int} {h : jH} {o : ((Int × Int × jH) ⊕ (Int × jH))} {r : mm_R} (e : jd_52_s4 this x1 x2 h = some o) (K : jsm (fun s => (∀ lv : jL, lv 0 = some (jR (some this)) → lv 1 = some (jI s.1) → lv 2 = some (jI s.2.1) → ey (mm_xt L xs) 1 52 4 lv [] s.2.2 r)) (fun x => (∀ lv : jL, lv 0 = some (jR (some this)) → lv 1 = some (jI x.1) → ey (mm_xt L xs) 1 52 50 lv [] x.2 r)) o) : ∀ lv : jL, lv 0 = some (jR (some this)) → lv 1 = some (jI x1) → lv 2 = some (jI x2) → ey (mm_xt L xs) 1 52 4 lv [] h r := by
  intro lv f0 f1 f2
  unfold jd_52_s4 at e
  refine ey_iload_n (cd_52 rfl) f2 ?_
  refine ey_iconst (cd_52 rfl) ?_
  by_cases q1 : 5 ≤ (jw x2)
  · rw [if_pos q1] at e
    refine ey_cge (cd_52 rfl) rfl rfl (show jw 5 = 5 from by decide) q1 ?_
    cases e
    exact K lv f0 f1
  · rw [if_neg q1] at e
    refine ey_nge (cd_52 rfl) rfl rfl (show jw 5 = 5 from by decide) q1 ?_
    refine ey_aload_n (cd_52 rfl) f0 ?_
    obtain ⟨u2, e3, e⟩ := jbind e
    obtain ⟨v4, e5, e⟩ := jbind e
    refine ey_cv (s0 := [jR (some this)]) (s1 := []) (st' := [jI v4]) (cd_52 rfl) mt_52 mt_53 rfl rfl rfl (jck_s e3) rfl (jsml_s rfl) rfl (ok_53 e5) ?_
    by_cases q6 : (jw v4) = 0
    · rw [if_pos q6] at e
      refine ey_zeq (cd_52 rfl) rfl rfl q6 ?_
      cases e
      exact K lv f0 f1
    · rw [if_neg q6] at e
      refine ey_yeq (cd_52 rfl) rfl rfl q6 ?_
      refine ey_bipush (cd_52 rfl) (by decide) ?_
      refine ey_iload_n (cd_52 rfl) f1 ?_
      refine ey_imul (cd_52 rfl) ?_
      refine ey_aload_n (cd_52 rfl) f0 ?_
      obtain ⟨r7, e8, e⟩ := jbind e
      refine ey_getf_r (cd_52 rfl) mt_52 rfl rfl rfl e8 ?_
      refine ey_aload_n (cd_52 rfl) f0 ?_
      obtain ⟨v9, e10, e⟩ := jbind e
      refine ey_getf_i (cd_52 rfl) mt_52 rfl rfl rfl e10 ?_
      obtain ⟨a11, e12, e⟩ := jbind e
      refine ey_rs (s0 := [jI v9, jR r7, jI (10 * x1)]) (s1 := [jI v9, jR (some a11), jI (10 * x1)]) (by rw [e12]) ?_
      obtain ⟨v13, e14, e⟩ := jbind e
      refine ey_bald (cd_52 rfl) e14 ?_
      refine ey_iadd (cd_52 rfl) ?_
      refine ey_bipush (cd_52 rfl) (by decide) ?_
      refine ey_isub (cd_52 rfl) ?_
      refine ey_istore_n (cd_52 rfl) mt_52 rfl ?_
      refine ey_aload_n (cd_52 rfl) (jup_pr (lv := lv) (j := 0) (v := jI (((10 * x1) + v13) - 48)) (z := (some this)) f0) ?_
      refine ey_dup (cd_52 rfl) rfl ?_
      obtain ⟨v15, e16, e⟩ := jbind e
      refine ey_getf_i (cd_52 rfl) mt_52 rfl rfl rfl e16 ?_
      refine ey_iconst (cd_52 rfl) ?_
      refine ey_iadd (cd_52 rfl) ?_
      obtain ⟨h17, e18, e⟩ := jbind e
      refine ey_putf_i (cd_52 rfl) mt_52 rfl rfl rfl e18 ?_
      refine ey_iinc (cd_52 rfl) mt_52 rfl f2 ?_
      refine ey_goto (cd_52 rfl) rfl ?_
      cases e
      exact K (jup (jup lv 1 (jI (((10 * x1) + v13) - 48))) 2 (jI (x2 + 1))) (jup_o rfl (jup_pr (lv := lv) (j := 0) (v := jI (((10 * x1) + v13) - 48)) (z := (some this)) f0)) (jup_pi (lv := (jup lv 1 (jI (((10 * x1) + v13) - 48)))) (j := 1) (v := jI (x2 + 1)) (z := (((10 * x1) + v13) - 48)) rfl) rfl
theorem jk_52_l4 {L : Nat} {xs : Nat → Int32} {this : Nat} {x1 : Int} {x2 : Int} {h : jH} {x : (Int × jH)} {r : mm_R} (e : jd_52_l4 this x1 x2 h = some x) (K : (∀ lv : jL, lv 0 = some (jR (some this)) → lv 1 = some (jI x.1) → ey (mm_xt L xs) 1 52 50 lv [] x.2 r)) : ∀ lv : jL, lv 0 = some (jR (some this)) → lv 1 = some (jI x1) → lv 2 = some (jI x2) → ey (mm_xt L xs) 1 52 4 lv [] h r := by
  unfold jd_52_l4 at e
  exact jlp_ok2 (P := fun s => ∀ lv : jL, lv 0 = some (jR (some this)) → lv 1 = some (jI s.1) → lv 2 = some (jI s.2.1) → ey (mm_xt L xs) 1 52 4 lv [] s.2.2 r) (Q := fun x => (∀ lv : jL, lv 0 = some (jR (some this)) → lv 1 = some (jI x.1) → ey (mm_xt L xs) 1 52 50 lv [] x.2 r)) (fun s q hq hk => jk_52_s4 hq hk) jfu _ x e K
set_option maxRecDepth 100000 in
theorem ok_52 {L : Nat} {xs : Nat → Int32} {this : Nat}  {h : jH} {o : (Int × jH)} (e : jd_52 this  h = some o) : mm_Runs (mm_xt L xs) 2 52 ([jR (some this)].map jcv) (jaH h) (.inl (some (jcv (jI o.1)), jaH o.2)) := by
  refine ey_run0 _ mt_52 (jsl_s rfl) ?_
  unfold jd_52 at e
  refine ey_iconst (cd_52 rfl) ?_
  refine ey_istore_n (cd_52 rfl) mt_52 rfl ?_
  refine ey_iconst (cd_52 rfl) ?_
  refine ey_istore_n (cd_52 rfl) mt_52 rfl ?_
  obtain ⟨x19, e20, e⟩ := jbind e
  refine jk_52_l4 e20 ?_ (jup (jup (jlf (jla 0 [jR (some this)])) 1 (jI 0)) 2 (jI 0)) (jup_o rfl (jup_pr (lv := (jlf (jla 0 [jR (some this)]))) (j := 0) (v := jI 0) (z := (some this)) rfl)) (jup_pi (lv := (jup (jlf (jla 0 [jR (some this)])) 1 (jI 0))) (j := 1) (v := jI 0) (z := 0) rfl) rfl
  intro lv g0 g1
  refine ey_aload_n (cd_52 rfl) g0 ?_
  refine ey_sipush (cd_52 rfl) (by decide) ?_
  refine ey_iload_n (cd_52 rfl) g1 ?_
  refine ey_iadd (cd_52 rfl) ?_
  obtain ⟨u21, e22, e⟩ := jbind e
  obtain ⟨h23, e24, e⟩ := jbind e
  refine ey_cv (s0 := [jI (1000 + x19.1), jR (some this)]) (s1 := []) (st' := []) (cd_52 rfl) mt_52 mt_46 rfl rfl rfl (jck_s e22) rfl (jsml_s rfl) rfl (ok_46 e24) ?_
  refine ey_aload_n (cd_52 rfl) g0 ?_
  obtain ⟨u25, e26, e⟩ := jbind e
  obtain ⟨v27, e28, e⟩ := jbind e
  refine ey_cv (s0 := [jR (some this)]) (s1 := []) (st' := [jI v27]) (cd_52 rfl) mt_52 mt_53 rfl rfl rfl (jck_s e26) rfl (jsml_s rfl) rfl (ok_53 e28) ?_
  have K29 : ∀ lv : jL, ey (mm_xt L xs) 1 52 71 lv [jI (if (jw v27) = 0 then 1 else 0)] h23 (.inl (some (jcv (jI o.1)), jaH o.2)) := by
    intro lv 
    cases e
    exact ey_retz (cd_52 rfl) mt_52 rfl (jbo_ite (Or.inr rfl) (Or.inl rfl))
  by_cases q30 : (jw v27) = 0
  · refine ey_yne (cd_52 rfl) rfl rfl (fun w => w q30) ?_
    refine ey_iconst (cd_52 rfl) ?_
    refine ey_goto (cd_52 rfl) rfl ?_
    exact ey_rs (s0 := [jI 1]) (s1 := [jI (if (jw v27) = 0 then 1 else 0)]) (by rw [show ((if (jw v27) = 0 then 1 else 0) : Int) = 1 from (if_pos q30)]) (K29 lv )
  · refine ey_zne (cd_52 rfl) rfl rfl q30 ?_
    refine ey_iconst (cd_52 rfl) ?_
    exact ey_rs (s0 := [jI 0]) (s1 := [jI (if (jw v27) = 0 then 1 else 0)]) (by rw [show ((if (jw v27) = 0 then 1 else 0) : Int) = 0 from (if_neg q30)]) (K29 lv )
theorem cd_49 {pc : Nat} {i : Instr × Nat} (h : mm_lk mm_c49 pc = some i) : mm_cd 49 pc = some i := h
theorem mt_49 : mm_MT 49 = (3, 5, some .boolean, 1, 0, []) := rfl
theorem cd_50 {pc : Nat} {i : Instr × Nat} (h : mm_lk mm_c50 pc = some i) : mm_cd 50 pc = some i := h
theorem mt_50 : mm_MT 50 = (3, 5, some .boolean, 1, 0, []) := rfl
theorem cd_51 {pc : Nat} {i : Instr × Nat} (h : mm_lk mm_c51 pc = some i) : mm_cd 51 pc = some i := h
theorem mt_51 : mm_MT 51 = (3, 4, some .boolean, 1, 0, []) := rfl
theorem cd_54 {pc : Nat} {i : Instr × Nat} (h : mm_lk mm_c54 pc = some i) : mm_cd 54 pc = some i := h
theorem mt_54 : mm_MT 54 = (3, 3, some .boolean, 1, 0, []) := rfl
theorem cd_55 {pc : Nat} {i : Instr × Nat} (h : mm_lk mm_c55 pc = some i) : mm_cd 55 pc = some i := h
theorem mt_55 : mm_MT 55 = (3, 4, some .boolean, 2, 0, []) := rfl
set_option maxRecDepth 100000 in
theorem ok_54 {L : Nat} {xs : Nat → Int32} {n : Nat} {F : jFR} (HF : jHF L xs n F) {this : Nat} {p0 : Int} {h : jH} {o : (Int × jH)} (e : jd_54 F this p0 h = some o) : mm_Runs (mm_xt L xs) (n + 9) 54 ([jR (some this), jI p0].map jcv) (jaH h) (.inl (some (jcv (jI o.1)), jaH o.2)) := by
  refine ey_run0 _ mt_54 (jsl_s rfl) ?_
  unfold jd_54 at e
  refine ey_iload_n (cd_54 rfl) rfl ?_
  refine ey_bipush (cd_54 rfl) (by decide) ?_
  by_cases q1 : (jw p0) < 12
  · rw [if_pos q1] at e
    refine ey_clt (cd_54 rfl) rfl rfl (show jw 12 = 12 from by decide) q1 ?_
    refine ey_aload_n (cd_54 rfl) rfl ?_
    refine ey_dup (cd_54 rfl) rfl ?_
    obtain ⟨v2, e3, e⟩ := jbind e
    refine ey_getf_i (cd_54 rfl) mt_54 rfl rfl rfl e3 ?_
    refine ey_iconst (cd_54 rfl) ?_
    refine ey_iadd (cd_54 rfl) ?_
    obtain ⟨h4, e5, e⟩ := jbind e
    refine ey_putf_i (cd_54 rfl) mt_54 rfl rfl rfl e5 ?_
    refine ey_aload_n (cd_54 rfl) rfl ?_
    refine ey_iload_n (cd_54 rfl) rfl ?_
    refine ey_iconst (cd_54 rfl) ?_
    refine ey_iadd (cd_54 rfl) ?_
    obtain ⟨u6, e7, e⟩ := jbind e
    obtain ⟨q8, e9, e⟩ := jbind e
    refine ey_cv (s0 := [jI (p0 + 1), jR (some this)]) (s1 := []) (st' := [jI q8.1]) (cd_54 rfl) mt_54 mt_51 rfl rfl rfl (jck_s e7) rfl (jsml_s rfl) rfl ((HF).2.2.1 _ _ _ _ e9) ?_
    refine ey_istore_n (cd_54 rfl) mt_54 rfl ?_
    refine ey_aload_n (cd_54 rfl) rfl ?_
    refine ey_bipush (cd_54 rfl) (by decide) ?_
    obtain ⟨u10, e11, e⟩ := jbind e
    obtain ⟨h12, e13, e⟩ := jbind e
    refine ey_cv (s0 := [jI 126, jR (some this)]) (s1 := []) (st' := []) (cd_54 rfl) mt_54 mt_46 rfl rfl rfl (jck_s e11) rfl (jsml_s rfl) rfl (mm_Runs.up (d := 1) (by omega) (ok_46 e13)) ?_
    refine ey_iload_n (cd_54 rfl) rfl ?_
    obtain ⟨u14, e15, e⟩ := jbind e
    cases e
    exact ey_retz (cd_54 rfl) mt_54 rfl (jbc_s e15)
  · rw [if_neg q1] at e
    refine ey_nlt (cd_54 rfl) rfl rfl (show jw 12 = 12 from by decide) q1 ?_
    refine ey_iconst (cd_54 rfl) ?_
    cases e
    exact ey_retz (cd_54 rfl) mt_54 rfl (Or.inl rfl)
theorem cd_48 {pc : Nat} {i : Instr × Nat} (h : mm_lk mm_c48 pc = some i) : mm_cd 48 pc = some i := h
theorem mt_48 : mm_MT 48 = (3, 2, some .boolean, 1, 0, []) := rfl
set_option maxRecDepth 100000 in
theorem ok_48 {L : Nat} {xs : Nat → Int32} {this : Nat} {p0 : Int} {h : jH} {o : (Int × jH)} (e : jd_48 this p0 h = some o) : mm_Runs (mm_xt L xs) 2 48 ([jR (some this), jI p0].map jcv) (jaH h) (.inl (some (jcv (jI o.1)), jaH o.2)) := by
  refine ey_run0 _ mt_48 (jsl_s rfl) ?_
  unfold jd_48 at e
  refine ey_aload_n (cd_48 rfl) rfl ?_
  obtain ⟨u1, e2, e⟩ := jbind e
  obtain ⟨q3, e4, e⟩ := jbind e
  refine ey_cv (s0 := [jR (some this)]) (s1 := []) (st' := [jI q3.1]) (cd_48 rfl) mt_48 mt_47 rfl rfl rfl (jck_s e2) rfl (jsml_s rfl) rfl (ok_47 e4) ?_
  refine ey_iload_n (cd_48 rfl) rfl ?_
  by_cases q5 : (jw q3.1) = (jw p0)
  · rw [if_pos q5] at e
    refine ey_ceq (cd_48 rfl) rfl rfl rfl q5 ?_
    refine ey_aload_n (cd_48 rfl) rfl ?_
    refine ey_dup (cd_48 rfl) rfl ?_
    obtain ⟨v6, e7, e⟩ := jbind e
    refine ey_getf_i (cd_48 rfl) mt_48 rfl rfl rfl e7 ?_
    refine ey_iconst (cd_48 rfl) ?_
    refine ey_iadd (cd_48 rfl) ?_
    obtain ⟨h8, e9, e⟩ := jbind e
    refine ey_putf_i (cd_48 rfl) mt_48 rfl rfl rfl e9 ?_
    refine ey_iconst (cd_48 rfl) ?_
    cases e
    exact ey_retz (cd_48 rfl) mt_48 rfl (Or.inr rfl)
  · rw [if_neg q5] at e
    refine ey_neq (cd_48 rfl) rfl rfl rfl q5 ?_
    refine ey_iconst (cd_48 rfl) ?_
    cases e
    exact ey_retz (cd_48 rfl) mt_48 rfl (Or.inl rfl)
set_option maxRecDepth 100000 in
theorem jk_55_b49 {L : Nat} {xs : Nat → Int32} {n : Nat} {F : jFR} (HF : jHF L xs n F) {this : Nat} {x1 : Int} {x2 : Int} {x3 : Int} {h : jH} {o : ((Int × jH) ⊕ (jH ⊕ (jH ⊕ jH)))} {r : mm_R} (e : jd_55_b49 F this x1 x2 x3 h = some o) (K : jsm (fun s => (∀ lv : jL, lv 0 = some (jR (some this)) → lv 1 = some (jI x1) → lv 2 = some (jI x2) → lv 3 = some (jI s.1) → ey (mm_xt L xs) (n + 8) 55 29 lv [] s.2 r)) (fun x => (jsm (fun y => (∀ lv : jL, ey (mm_xt L xs) (n + 8) 55 47 lv [] y r)) (fun z => (jsm (fun y => (∀ lv : jL, ey (mm_xt L xs) (n + 8) 55 59 lv [] y r)) (fun z => (∀ lv : jL, lv 0 = some (jR (some this)) → ey (mm_xt L xs) (n + 8) 55 67 lv [] z r)) z)) x)) o) : ∀ lv : jL, lv 0 = some (jR (some this)) → lv 1 = some (jI x1) → lv 2 = some (jI x2) → lv 3 = some (jI x3) → ey (mm_xt L xs) (n + 8) 55 49 lv [] h r := by
  intro lv f0 f1 f2 f3
  unfold jd_55_b49 at e
  refine ey_aload_n (cd_55 rfl) f0 ?_
  refine ey_iload_n (cd_55 rfl) f1 ?_
  refine ey_iconst (cd_55 rfl) ?_
  refine ey_iadd (cd_55 rfl) ?_
  obtain ⟨u13, e14, e⟩ := jbind e
  obtain ⟨q15, e16, e⟩ := jbind e
  refine ey_cv (s0 := [jI (x1 + 1), jR (some this)]) (s1 := []) (st' := [jI q15.1]) (cd_55 rfl) mt_55 mt_49 rfl rfl rfl (jck_s e14) rfl (jsml_s rfl) rfl ((HF).1 _ _ _ _ e16) ?_
  by_cases q17 : (jw q15.1) = 0
  · rw [if_pos q17] at e
    refine ey_yne (cd_55 rfl) rfl rfl (fun w => w q17) ?_
    cases e
    exact K lv 
  · rw [if_neg q17] at e
    refine ey_zne (cd_55 rfl) rfl rfl q17 ?_
    refine ey_iinc (cd_55 rfl) mt_55 rfl f3 ?_
    refine ey_goto (cd_55 rfl) rfl ?_
    cases e
    exact K (jup lv 3 (jI (x3 + 1))) f0 f1 (jup_pi (lv := lv) (j := 2) (v := jI (x3 + 1)) (z := x2) f2) rfl
set_option maxRecDepth 100000 in
theorem jk_55_s29 {L : Nat} {xs : Nat → Int32} {n : Nat} {F : jFR} (HF : jHF L xs n F) {this : Nat} {x1 : Int} {x2 : Int} {x3 : Int} {h : jH} {o : ((Int × jH) ⊕ (jH ⊕ (jH ⊕ jH)))} {r : mm_R} (e : jd_55_s29 F this x1 x2 x3 h = some o) (K : jsm (fun s => (∀ lv : jL, lv 0 = some (jR (some this)) → lv 1 = some (jI x1) → lv 2 = some (jI x2) → lv 3 = some (jI s.1) → ey (mm_xt L xs) (n + 8) 55 29 lv [] s.2 r)) (fun x => (jsm (fun y => (∀ lv : jL, ey (mm_xt L xs) (n + 8) 55 47 lv [] y r)) (fun z => (jsm (fun y => (∀ lv : jL, ey (mm_xt L xs) (n + 8) 55 59 lv [] y r)) (fun z => (∀ lv : jL, lv 0 = some (jR (some this)) → ey (mm_xt L xs) (n + 8) 55 67 lv [] z r)) z)) x)) o) : ∀ lv : jL, lv 0 = some (jR (some this)) → lv 1 = some (jI x1) → lv 2 = some (jI x2) → lv 3 = some (jI x3) → ey (mm_xt L xs) (n + 8) 55 29 lv [] h r := by
  intro lv f0 f1 f2 f3
  unfold jd_55_s29 at e
  refine ey_iload_n (cd_55 rfl) f3 ?_
  refine ey_iload_n (cd_55 rfl) f2 ?_
  by_cases q11 : (jw x2) ≤ (jw x3)
  · rw [if_pos q11] at e
    refine ey_cge (cd_55 rfl) rfl rfl rfl q11 ?_
    cases e
    exact K lv f0
  · rw [if_neg q11] at e
    refine ey_nge (cd_55 rfl) rfl rfl rfl q11 ?_
    refine ey_iload_n (cd_55 rfl) f3 ?_
    by_cases q12 : (jw x3) ≤ 0
    · rw [if_pos q12] at e
      refine ey_zle (cd_55 rfl) rfl rfl q12 ?_
      exact jk_55_b49 HF e K lv f0 f1 f2 f3
    · rw [if_neg q12] at e
      refine ey_yle (cd_55 rfl) rfl rfl q12 ?_
      refine ey_aload_n (cd_55 rfl) f0 ?_
      refine ey_bipush (cd_55 rfl) (by decide) ?_
      obtain ⟨u18, e19, e⟩ := jbind e
      obtain ⟨q20, e21, e⟩ := jbind e
      refine ey_cv (s0 := [jI 44, jR (some this)]) (s1 := []) (st' := [jI q20.1]) (cd_55 rfl) mt_55 mt_48 rfl rfl rfl (jck_s e19) rfl (jsml_s rfl) rfl (mm_Runs.up (d := 2) (by omega) (ok_48 e21)) ?_
      by_cases q22 : (jw q20.1) = 0
      · rw [if_pos q22] at e
        refine ey_yne (cd_55 rfl) rfl rfl (fun w => w q22) ?_
        cases e
        exact K lv 
      · rw [if_neg q22] at e
        refine ey_zne (cd_55 rfl) rfl rfl q22 ?_
        exact jk_55_b49 HF e K lv f0 f1 f2 f3
theorem jk_55_l29 {L : Nat} {xs : Nat → Int32} {n : Nat} {F : jFR} (HF : jHF L xs n F) {this : Nat} {x1 : Int} {x2 : Int} {x3 : Int} {h : jH} {x : (jH ⊕ (jH ⊕ jH))} {r : mm_R} (e : jd_55_l29 F this x1 x2 x3 h = some x) (K : (jsm (fun y => (∀ lv : jL, ey (mm_xt L xs) (n + 8) 55 47 lv [] y r)) (fun z => (jsm (fun y => (∀ lv : jL, ey (mm_xt L xs) (n + 8) 55 59 lv [] y r)) (fun z => (∀ lv : jL, lv 0 = some (jR (some this)) → ey (mm_xt L xs) (n + 8) 55 67 lv [] z r)) z)) x)) : ∀ lv : jL, lv 0 = some (jR (some this)) → lv 1 = some (jI x1) → lv 2 = some (jI x2) → lv 3 = some (jI x3) → ey (mm_xt L xs) (n + 8) 55 29 lv [] h r := by
  unfold jd_55_l29 at e
  exact jlp_ok2 (P := fun s => ∀ lv : jL, lv 0 = some (jR (some this)) → lv 1 = some (jI x1) → lv 2 = some (jI x2) → lv 3 = some (jI s.1) → ey (mm_xt L xs) (n + 8) 55 29 lv [] s.2 r) (Q := fun x => (jsm (fun y => (∀ lv : jL, ey (mm_xt L xs) (n + 8) 55 47 lv [] y r)) (fun z => (jsm (fun y => (∀ lv : jL, ey (mm_xt L xs) (n + 8) 55 59 lv [] y r)) (fun z => (∀ lv : jL, lv 0 = some (jR (some this)) → ey (mm_xt L xs) (n + 8) 55 67 lv [] z r)) z)) x)) (fun s q hq hk => jk_55_s29 HF hq hk) jfu _ x e K
set_option maxRecDepth 100000 in
theorem jk_55_b15 {L : Nat} {xs : Nat → Int32} {n : Nat} {F : jFR} (HF : jHF L xs n F) {this : Nat}  {h : jH} {o : (Int × jH)} (e : jd_55_b15 F this  h = some o) : ∀ lv : jL, ey (mm_xt L xs) (n + 8) 55 15 lv [] h (.inl (some (jcv (jI o.1)), jaH o.2)) := by
  intro lv 
  unfold jd_55_b15 at e
  refine ey_iconst (cd_55 rfl) ?_
  cases e
  exact ey_retz (cd_55 rfl) mt_55 rfl (Or.inl rfl)
set_option maxRecDepth 100000 in
theorem ok_55 {L : Nat} {xs : Nat → Int32} {n : Nat} {F : jFR} (HF : jHF L xs n F) {this : Nat} {p0 : Int} {p1 : Int} {h : jH} {o : (Int × jH)} (e : jd_55 F this p0 p1 h = some o) : mm_Runs (mm_xt L xs) (n + 9) 55 ([jR (some this), jI p0, jI p1].map jcv) (jaH h) (.inl (some (jcv (jI o.1)), jaH o.2)) := by
  refine ey_run0 _ mt_55 (jsl_s rfl) ?_
  unfold jd_55 at e
  refine ey_aload_n (cd_55 rfl) rfl ?_
  obtain ⟨u1, e2, e⟩ := jbind e
  obtain ⟨q3, e4, e⟩ := jbind e
  refine ey_cv (s0 := [jR (some this)]) (s1 := []) (st' := [jI q3.1]) (cd_55 rfl) mt_55 mt_47 rfl rfl rfl (jck_s e2) rfl (jsml_s rfl) rfl (mm_Runs.up (d := 1) (by omega) (ok_47 e4)) ?_
  refine ey_bipush (cd_55 rfl) (by decide) ?_
  by_cases q5 : (jw q3.1) = 40
  · rw [if_pos q5] at e
    refine ey_nne (cd_55 rfl) rfl rfl (show jw 40 = 40 from by decide) (fun w => w q5) ?_
    refine ey_iload_n (cd_55 rfl) rfl ?_
    refine ey_bipush (cd_55 rfl) (by decide) ?_
    by_cases q6 : (jw p0) < 12
    · rw [if_pos q6] at e
      refine ey_clt (cd_55 rfl) rfl rfl (show jw 12 = 12 from by decide) q6 ?_
      refine ey_aload_n (cd_55 rfl) rfl ?_
      refine ey_dup (cd_55 rfl) rfl ?_
      obtain ⟨v7, e8, e⟩ := jbind e
      refine ey_getf_i (cd_55 rfl) mt_55 rfl rfl rfl e8 ?_
      refine ey_iconst (cd_55 rfl) ?_
      refine ey_iadd (cd_55 rfl) ?_
      obtain ⟨h9, e10, e⟩ := jbind e
      refine ey_putf_i (cd_55 rfl) mt_55 rfl rfl rfl e10 ?_
      refine ey_iconst (cd_55 rfl) ?_
      refine ey_istore_n (cd_55 rfl) mt_55 rfl ?_
      obtain ⟨x23, e24, e⟩ := jbind e
      refine jk_55_l29 HF e24 ?_ (jup (jlf (jla 0 [jR (some this), jI p0, jI p1])) 3 (jI 0)) rfl rfl (jup_pi (lv := (jlf (jla 0 [jR (some this), jI p0, jI p1]))) (j := 2) (v := jI 0) (z := p1) rfl) rfl
      cases x23 with
      | inl y25 =>
        replace e : (some (0, y25) : Option (Int × jH)) = some o := e
        intro lv 
        refine ey_iconst (cd_55 rfl) ?_
        cases e
        exact ey_retz (cd_55 rfl) mt_55 rfl (Or.inl rfl)
      | inr y26 =>
        replace e : (jse y26 (fun y27 => some (0, y27)) (fun y28 => ((jck y28 this 3).bind fun u29 => ((jd_48 this 41 y28).bind fun q31 => ((jbc q31.1).bind fun u33 => some (q31.1, q31.2))))) : Option (Int × jH)) = some o := e
        cases y26 with
        | inl y27 =>
          replace e : (some (0, y27) : Option (Int × jH)) = some o := e
          intro lv 
          refine ey_iconst (cd_55 rfl) ?_
          cases e
          exact ey_retz (cd_55 rfl) mt_55 rfl (Or.inl rfl)
        | inr y28 =>
          replace e : (((jck y28 this 3).bind fun u29 => ((jd_48 this 41 y28).bind fun q31 => ((jbc q31.1).bind fun u33 => some (q31.1, q31.2)))) : Option (Int × jH)) = some o := e
          intro lv g0
          refine ey_aload_n (cd_55 rfl) g0 ?_
          refine ey_bipush (cd_55 rfl) (by decide) ?_
          obtain ⟨u29, e30, e⟩ := jbind e
          obtain ⟨q31, e32, e⟩ := jbind e
          refine ey_cv (s0 := [jI 41, jR (some this)]) (s1 := []) (st' := [jI q31.1]) (cd_55 rfl) mt_55 mt_48 rfl rfl rfl (jck_s e30) rfl (jsml_s rfl) rfl (mm_Runs.up (d := 2) (by omega) (ok_48 e32)) ?_
          obtain ⟨u33, e34, e⟩ := jbind e
          cases e
          exact ey_retz (cd_55 rfl) mt_55 rfl (jbc_s e34)
    · rw [if_neg q6] at e
      refine ey_nlt (cd_55 rfl) rfl rfl (show jw 12 = 12 from by decide) q6 ?_
      exact jk_55_b15 HF e (jlf (jla 0 [jR (some this), jI p0, jI p1])) 
  · rw [if_neg q5] at e
    refine ey_cne (cd_55 rfl) rfl rfl (show jw 40 = 40 from by decide) q5 ?_
    exact jk_55_b15 HF e (jlf (jla 0 [jR (some this), jI p0, jI p1])) 
