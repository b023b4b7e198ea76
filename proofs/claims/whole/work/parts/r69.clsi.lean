theorem cd_158 {pc : Nat} {i : Instr × Nat} (h : mm_lk mm_c158 pc = some i) : mm_cd 158 pc = some i := h
theorem mt_158 : mm_MT 158 = (11, 4, some .int, 2, 0, []) := rfl
set_option maxRecDepth 100000 in
theorem ok_158 {L : Nat} {xs : Nat → Int32} {this : Nat} {p0 : Int} {p1 : Int} {h : jH} {o : ((Int ⊕ Nat) × jH)} (e : jd_158 this p0 p1 h = some o) : mm_Runs (mm_xt L xs) 2 158 ([jR (some this), jI p0, jI p1].map jcv) (jaH h) (jres_i o) := by
  refine ey_run0 _ mt_158 (jsl_s rfl) ?_
  unfold jd_158 at e
  refine ey_aload_n (cd_158 rfl) rfl ?_
  refine ey_iload_n (cd_158 rfl) rfl ?_
  obtain ⟨u1, e2, e⟩ := jbind e
  rcases jtb_c e with ⟨v5, h7, e4, e⟩ | ⟨E6, h7, e4, e⟩
  rotate_left
  · cases e
    exact ey_cvX (s0 := [jI p0, jR (some this)]) (s1 := []) (cd_158 rfl) mt_158 rfl mt_195 rfl rfl rfl (jck_s e2) rfl (jsml_s rfl) (ok_195 e4)
  refine ey_cv (s0 := [jI p0, jR (some this)]) (s1 := []) (st' := [jR (some v5)]) (cd_158 rfl) mt_158 mt_195 rfl rfl rfl (jck_s e2) rfl (jsml_s rfl) rfl (ok_195 e4) ?_
  refine ey_astore_n (cd_158 rfl) mt_158 rfl ?_
  refine ey_iload_n (cd_158 rfl) (jup_pi (lv := (jlf (jla 0 [jR (some this), jI p0, jI p1]))) (j := 2) (v := jR (some v5)) (z := p1) rfl) ?_
  refine ey_bipush (cd_158 rfl) (by decide) ?_
  rcases jtb_c e with ⟨v10, h12, e9, e⟩ | ⟨E11, h12, e9, e⟩
  rotate_left
  · cases e
    exact ey_csX (s0 := [jI 7, jI p1]) (s1 := []) (cd_158 rfl) mt_158 rfl mt_185 rfl rfl rfl (jsml_s rfl) (ok_185 e9)
  refine ey_cs (s0 := [jI 7, jI p1]) (s1 := []) (st' := []) (cd_158 rfl) mt_158 mt_185 rfl (by decide) rfl rfl (jsml_s rfl) rfl (ok_185 e9) ?_
  refine ey_iload_n (cd_158 rfl) (jup_pi (lv := (jlf (jla 0 [jR (some this), jI p0, jI p1]))) (j := 2) (v := jR (some v5)) (z := p1) rfl) ?_
  by_cases q13 : (jw p1) = 0
  · rw [if_pos q13] at e
    refine ey_tsw (cd_158 rfl) q13 (by decide) rfl rfl ?_
    refine ey_aload_n (cd_158 rfl) rfl ?_
    obtain ⟨v14, e15, e⟩ := jbind e
    refine ey_getf_i (cd_158 rfl) mt_158 rfl rfl rfl e15 ?_
    cases e
    exact ey_reti (cd_158 rfl) mt_158 rfl
  · rw [if_neg q13] at e
    by_cases q16 : (jw p1) = 1
    · rw [if_pos q16] at e
      refine ey_tsw (cd_158 rfl) q16 (by decide) rfl rfl ?_
      refine ey_aload_n (cd_158 rfl) rfl ?_
      obtain ⟨v17, e18, e⟩ := jbind e
      refine ey_getf_i (cd_158 rfl) mt_158 rfl rfl rfl e18 ?_
      cases e
      exact ey_reti (cd_158 rfl) mt_158 rfl
    · rw [if_neg q16] at e
      by_cases q19 : (jw p1) = 2
      · rw [if_pos q19] at e
        refine ey_tsw (cd_158 rfl) q19 (by decide) rfl rfl ?_
        refine ey_aload_n (cd_158 rfl) rfl ?_
        obtain ⟨v20, e21, e⟩ := jbind e
        refine ey_getf_i (cd_158 rfl) mt_158 rfl rfl rfl e21 ?_
        cases e
        exact ey_reti (cd_158 rfl) mt_158 rfl
      · rw [if_neg q19] at e
        by_cases q22 : (jw p1) = 3
        · rw [if_pos q22] at e
          refine ey_tsw (cd_158 rfl) q22 (by decide) rfl rfl ?_
          refine ey_aload_n (cd_158 rfl) rfl ?_
          obtain ⟨v23, e24, e⟩ := jbind e
          refine ey_getf_i (cd_158 rfl) mt_158 rfl rfl rfl e24 ?_
          cases e
          exact ey_reti (cd_158 rfl) mt_158 rfl
        · rw [if_neg q22] at e
          by_cases q25 : (jw p1) = 4
          · rw [if_pos q25] at e
            refine ey_tsw (cd_158 rfl) q25 (by decide) rfl rfl ?_
            refine ey_aload_n (cd_158 rfl) rfl ?_
            obtain ⟨v26, e27, e⟩ := jbind e
            refine ey_getf_i (cd_158 rfl) mt_158 rfl rfl rfl e27 ?_
            cases e
            exact ey_reti (cd_158 rfl) mt_158 rfl
          · rw [if_neg q25] at e
            by_cases q28 : (jw p1) = 5
            · rw [if_pos q28] at e
              refine ey_tsw (cd_158 rfl) q28 (by decide) rfl rfl ?_
              refine ey_aload_n (cd_158 rfl) rfl ?_
              obtain ⟨v29, e30, e⟩ := jbind e
              refine ey_getf_i (cd_158 rfl) mt_158 rfl rfl rfl e30 ?_
              cases e
              exact ey_reti (cd_158 rfl) mt_158 rfl
            · rw [if_neg q28] at e
              by_cases q31 : (jw p1) = 6
              · rw [if_pos q31] at e
                refine ey_tsw (cd_158 rfl) q31 (by decide) rfl rfl ?_
                refine ey_aload_n (cd_158 rfl) rfl ?_
                obtain ⟨u32, e33, e⟩ := jbind e
                obtain ⟨v34, e35, e⟩ := jbind e
                refine ey_cv (s0 := [jR (some v5)]) (s1 := []) (st' := [jI v34]) (cd_158 rfl) mt_158 mt_39 rfl rfl rfl (jck_s e33) rfl (jsml_s rfl) rfl (ok_39 e35) ?_
                cases e
                exact ey_reti (cd_158 rfl) mt_158 rfl
              · rw [if_neg q31] at e
                refine ey_tsw_d (cd_158 rfl) (by omega) rfl ?_
                refine ey_aload_n (cd_158 rfl) rfl ?_
                obtain ⟨u36, e37, e⟩ := jbind e
                obtain ⟨v38, e39, e⟩ := jbind e
                refine ey_cv (s0 := [jR (some v5)]) (s1 := []) (st' := [jI v38]) (cd_158 rfl) mt_158 mt_40 rfl rfl rfl (jck_s e37) rfl (jsml_s rfl) rfl (ok_40 e39) ?_
                cases e
                exact ey_reti (cd_158 rfl) mt_158 rfl
theorem cd_187 {pc : Nat} {i : Instr × Nat} (h : mm_lk mm_c187 pc = some i) : mm_cd 187 pc = some i := h
theorem mt_187 : mm_MT 187 = (11, 2, none, 2, 1, []) := rfl
set_option maxRecDepth 100000 in
theorem jk_187_b12 {L : Nat} {xs : Nat → Int32}  {h : jH} {o : ((Unit ⊕ Nat) × jH)} (e : jd_187_b12  h = some o) : ∀ lv : jL, ey (mm_xt L xs) 0 187 12 lv [] h (jres_v o) := by
  intro lv 
  unfold jd_187_b12 at e
  obtain ⟨u2, e3, e⟩ := jbind e
  cases e
  exact ey_throw (st := []) (f := (2, 178, 438, 182, 1)) (cd_187 rfl) mt_187 rfl rfl rfl (j6_s e3) (jsml_s rfl)
set_option maxRecDepth 100000 in
theorem ok_187 {L : Nat} {xs : Nat → Int32} {p0 : Option Nat} {p1 : Int} {h : jH} {o : ((Unit ⊕ Nat) × jH)} (e : jd_187 p0 p1 h = some o) : mm_Runs (mm_xt L xs) 1 187 ([jR p0, jI p1].map jcv) (jaH h) (jres_v o) := by
  refine ey_run0 _ mt_187 (jsl_s rfl) ?_
  unfold jd_187 at e
  refine ey_iload_n (cd_187 rfl) rfl ?_
  by_cases q1 : (jw p1) < 0
  · rw [if_pos q1] at e
    refine ey_zlt (cd_187 rfl) rfl rfl q1 ?_
    exact jk_187_b12 e (jlf (jla 0 [jR p0, jI p1])) 
  · rw [if_neg q1] at e
    refine ey_ylt (cd_187 rfl) rfl rfl q1 ?_
    refine ey_iload_n (cd_187 rfl) rfl ?_
    refine ey_aload_n (cd_187 rfl) rfl ?_
    obtain ⟨a4, e5, e⟩ := jbind e
    refine ey_rs (s0 := [jR p0, jI p1]) (s1 := [jR (some a4), jI p1]) (by rw [e5]) ?_
    obtain ⟨v6, e7, e⟩ := jbind e
    refine ey_getf_i (cd_187 rfl) mt_187 rfl rfl rfl e7 ?_
    by_cases q8 : (jw p1) < (jw v6)
    · rw [if_pos q8] at e
      refine ey_clt (cd_187 rfl) rfl rfl rfl q8 ?_
      cases e
      exact ey_retv (cd_187 rfl) mt_187 rfl
    · rw [if_neg q8] at e
      refine ey_nlt (cd_187 rfl) rfl rfl rfl q8 ?_
      exact jk_187_b12 e (jlf (jla 0 [jR p0, jI p1])) 
theorem cd_159 {pc : Nat} {i : Instr × Nat} (h : mm_lk mm_c159 pc = some i) : mm_cd 159 pc = some i := h
theorem mt_159 : mm_MT 159 = (11, 5, some .int, 3, 0, []) := rfl
set_option maxRecDepth 100000 in
theorem ok_159 {L : Nat} {xs : Nat → Int32} {this : Nat} {p0 : Int} {p1 : Int} {p2 : Int} {h : jH} {o : ((Int ⊕ Nat) × jH)} (e : jd_159 this p0 p1 p2 h = some o) : mm_Runs (mm_xt L xs) 2 159 ([jR (some this), jI p0, jI p1, jI p2].map jcv) (jaH h) (jres_i o) := by
  refine ey_run0 _ mt_159 (jsl_s rfl) ?_
  unfold jd_159 at e
  refine ey_aload_n (cd_159 rfl) rfl ?_
  refine ey_iload_n (cd_159 rfl) rfl ?_
  obtain ⟨u1, e2, e⟩ := jbind e
  rcases jtb_c e with ⟨v5, h7, e4, e⟩ | ⟨E6, h7, e4, e⟩
  rotate_left
  · cases e
    exact ey_cvX (s0 := [jI p0, jR (some this)]) (s1 := []) (cd_159 rfl) mt_159 rfl mt_195 rfl rfl rfl (jck_s e2) rfl (jsml_s rfl) (ok_195 e4)
  refine ey_cv (s0 := [jI p0, jR (some this)]) (s1 := []) (st' := [jR (some v5)]) (cd_159 rfl) mt_159 mt_195 rfl rfl rfl (jck_s e2) rfl (jsml_s rfl) rfl (ok_195 e4) ?_
  refine ey_astore (cd_159 rfl) mt_159 rfl ?_
  refine ey_aload (cd_159 rfl) rfl ?_
  refine ey_iload_n (cd_159 rfl) rfl ?_
  rcases jtb_c e with ⟨v10, h12, e9, e⟩ | ⟨E11, h12, e9, e⟩
  rotate_left
  · cases e
    exact ey_csX (s0 := [jI p1, jR (some v5)]) (s1 := []) (cd_159 rfl) mt_159 rfl mt_187 rfl rfl rfl (jsml_s rfl) (ok_187 e9)
  refine ey_cs (s0 := [jI p1, jR (some v5)]) (s1 := []) (st' := []) (cd_159 rfl) mt_159 mt_187 rfl (by decide) rfl rfl (jsml_s rfl) rfl (ok_187 e9) ?_
  refine ey_iload_n (cd_159 rfl) (jup_pi (lv := (jlf (jla 0 [jR (some this), jI p0, jI p1, jI p2]))) (j := 3) (v := jR (some v5)) (z := p2) rfl) ?_
  refine ey_bipush (cd_159 rfl) (by decide) ?_
  rcases jtb_c e with ⟨v15, h17, e14, e⟩ | ⟨E16, h17, e14, e⟩
  rotate_left
  · cases e
    exact ey_csX (s0 := [jI 7, jI p2]) (s1 := []) (cd_159 rfl) mt_159 rfl mt_185 rfl rfl rfl (jsml_s rfl) (ok_185 e14)
  refine ey_cs (s0 := [jI 7, jI p2]) (s1 := []) (st' := []) (cd_159 rfl) mt_159 mt_185 rfl (by decide) rfl rfl (jsml_s rfl) rfl (ok_185 e14) ?_
  refine ey_iload_n (cd_159 rfl) (jup_pi (lv := (jlf (jla 0 [jR (some this), jI p0, jI p1, jI p2]))) (j := 3) (v := jR (some v5)) (z := p2) rfl) ?_
  by_cases q18 : (jw p2) = 0
  · rw [if_pos q18] at e
    refine ey_tsw (cd_159 rfl) q18 (by decide) rfl rfl ?_
    refine ey_aload (cd_159 rfl) rfl ?_
    obtain ⟨r19, e20, e⟩ := jbind e
    refine ey_getf_r (cd_159 rfl) mt_159 rfl rfl rfl e20 ?_
    refine ey_iload_n (cd_159 rfl) rfl ?_
    obtain ⟨a21, e22, e⟩ := jbind e
    refine ey_rs (s0 := [jI p1, jR r19]) (s1 := [jI p1, jR (some a21)]) (by rw [e22]) ?_
    obtain ⟨v23, e24, e⟩ := jbind e
    refine ey_iald (cd_159 rfl) e24 ?_
    cases e
    exact ey_reti (cd_159 rfl) mt_159 rfl
  · rw [if_neg q18] at e
    by_cases q25 : (jw p2) = 1
    · rw [if_pos q25] at e
      refine ey_tsw (cd_159 rfl) q25 (by decide) rfl rfl ?_
      refine ey_aload (cd_159 rfl) rfl ?_
      obtain ⟨r26, e27, e⟩ := jbind e
      refine ey_getf_r (cd_159 rfl) mt_159 rfl rfl rfl e27 ?_
      refine ey_iload_n (cd_159 rfl) rfl ?_
      obtain ⟨a28, e29, e⟩ := jbind e
      refine ey_rs (s0 := [jI p1, jR r26]) (s1 := [jI p1, jR (some a28)]) (by rw [e29]) ?_
      obtain ⟨v30, e31, e⟩ := jbind e
      refine ey_iald (cd_159 rfl) e31 ?_
      cases e
      exact ey_reti (cd_159 rfl) mt_159 rfl
    · rw [if_neg q25] at e
      by_cases q32 : (jw p2) = 2
      · rw [if_pos q32] at e
        refine ey_tsw (cd_159 rfl) q32 (by decide) rfl rfl ?_
        refine ey_aload (cd_159 rfl) rfl ?_
        obtain ⟨r33, e34, e⟩ := jbind e
        refine ey_getf_r (cd_159 rfl) mt_159 rfl rfl rfl e34 ?_
        refine ey_iload_n (cd_159 rfl) rfl ?_
        obtain ⟨a35, e36, e⟩ := jbind e
        refine ey_rs (s0 := [jI p1, jR r33]) (s1 := [jI p1, jR (some a35)]) (by rw [e36]) ?_
        obtain ⟨v37, e38, e⟩ := jbind e
        refine ey_iald (cd_159 rfl) e38 ?_
        cases e
        exact ey_reti (cd_159 rfl) mt_159 rfl
      · rw [if_neg q32] at e
        by_cases q39 : (jw p2) = 3
        · rw [if_pos q39] at e
          refine ey_tsw (cd_159 rfl) q39 (by decide) rfl rfl ?_
          refine ey_aload (cd_159 rfl) rfl ?_
          obtain ⟨r40, e41, e⟩ := jbind e
          refine ey_getf_r (cd_159 rfl) mt_159 rfl rfl rfl e41 ?_
          refine ey_iload_n (cd_159 rfl) rfl ?_
          obtain ⟨a42, e43, e⟩ := jbind e
          refine ey_rs (s0 := [jI p1, jR r40]) (s1 := [jI p1, jR (some a42)]) (by rw [e43]) ?_
          obtain ⟨v44, e45, e⟩ := jbind e
          refine ey_iald (cd_159 rfl) e45 ?_
          cases e
          exact ey_reti (cd_159 rfl) mt_159 rfl
        · rw [if_neg q39] at e
          by_cases q46 : (jw p2) = 4
          · rw [if_pos q46] at e
            refine ey_tsw (cd_159 rfl) q46 (by decide) rfl rfl ?_
            refine ey_aload (cd_159 rfl) rfl ?_
            obtain ⟨r47, e48, e⟩ := jbind e
            refine ey_getf_r (cd_159 rfl) mt_159 rfl rfl rfl e48 ?_
            refine ey_iload_n (cd_159 rfl) rfl ?_
            obtain ⟨a49, e50, e⟩ := jbind e
            refine ey_rs (s0 := [jI p1, jR r47]) (s1 := [jI p1, jR (some a49)]) (by rw [e50]) ?_
            obtain ⟨v51, e52, e⟩ := jbind e
            refine ey_iald (cd_159 rfl) e52 ?_
            cases e
            exact ey_reti (cd_159 rfl) mt_159 rfl
          · rw [if_neg q46] at e
            by_cases q53 : (jw p2) = 5
            · rw [if_pos q53] at e
              refine ey_tsw (cd_159 rfl) q53 (by decide) rfl rfl ?_
              refine ey_aload (cd_159 rfl) rfl ?_
              obtain ⟨r54, e55, e⟩ := jbind e
              refine ey_getf_r (cd_159 rfl) mt_159 rfl rfl rfl e55 ?_
              refine ey_iload_n (cd_159 rfl) rfl ?_
              obtain ⟨a56, e57, e⟩ := jbind e
              refine ey_rs (s0 := [jI p1, jR r54]) (s1 := [jI p1, jR (some a56)]) (by rw [e57]) ?_
              obtain ⟨v58, e59, e⟩ := jbind e
              refine ey_zald (cd_159 rfl) e59 ?_
              have K60 : ∀ lv : jL, ey (mm_xt L xs) 1 159 119 lv [jI (if (jw v58) = 0 then 0 else 1)] h17 (jres_i o) := by
                intro lv 
                cases e
                exact ey_reti (cd_159 rfl) mt_159 rfl
              by_cases q61 : (jw v58) = 0
              · refine ey_zeq (cd_159 rfl) rfl rfl q61 ?_
                refine ey_iconst (cd_159 rfl) ?_
                exact ey_rs (s0 := [jI 0]) (s1 := [jI (if (jw v58) = 0 then 0 else 1)]) (by rw [show ((if (jw v58) = 0 then 0 else 1) : Int) = 0 from (if_pos q61)]) (K60 (jup (jlf (jla 0 [jR (some this), jI p0, jI p1, jI p2])) 4 (jR (some v5))) )
              · refine ey_yeq (cd_159 rfl) rfl rfl q61 ?_
                refine ey_iconst (cd_159 rfl) ?_
                refine ey_goto (cd_159 rfl) rfl ?_
                exact ey_rs (s0 := [jI 1]) (s1 := [jI (if (jw v58) = 0 then 0 else 1)]) (by rw [show ((if (jw v58) = 0 then 0 else 1) : Int) = 1 from (if_neg q61)]) (K60 (jup (jlf (jla 0 [jR (some this), jI p0, jI p1, jI p2])) 4 (jR (some v5))) )
            · rw [if_neg q53] at e
              by_cases q62 : (jw p2) = 6
              · rw [if_pos q62] at e
                refine ey_tsw (cd_159 rfl) q62 (by decide) rfl rfl ?_
                refine ey_aload (cd_159 rfl) rfl ?_
                obtain ⟨r63, e64, e⟩ := jbind e
                refine ey_getf_r (cd_159 rfl) mt_159 rfl rfl rfl e64 ?_
                refine ey_iload_n (cd_159 rfl) rfl ?_
                obtain ⟨a65, e66, e⟩ := jbind e
                refine ey_rs (s0 := [jI p1, jR r63]) (s1 := [jI p1, jR (some a65)]) (by rw [e66]) ?_
                obtain ⟨v67, e68, e⟩ := jbind e
                refine ey_iald (cd_159 rfl) e68 ?_
                cases e
                exact ey_reti (cd_159 rfl) mt_159 rfl
              · rw [if_neg q62] at e
                refine ey_tsw_d (cd_159 rfl) (by omega) rfl ?_
                refine ey_aload (cd_159 rfl) rfl ?_
                obtain ⟨r69, e70, e⟩ := jbind e
                refine ey_getf_r (cd_159 rfl) mt_159 rfl rfl rfl e70 ?_
                refine ey_iload_n (cd_159 rfl) rfl ?_
                obtain ⟨a71, e72, e⟩ := jbind e
                refine ey_rs (s0 := [jI p1, jR r69]) (s1 := [jI p1, jR (some a71)]) (by rw [e72]) ?_
                obtain ⟨v73, e74, e⟩ := jbind e
                refine ey_iald (cd_159 rfl) e74 ?_
                cases e
                exact ey_reti (cd_159 rfl) mt_159 rfl
theorem cd_189 {pc : Nat} {i : Instr × Nat} (h : mm_lk mm_c189 pc = some i) : mm_cd 189 pc = some i := h
theorem mt_189 : mm_MT 189 = (11, 2, none, 2, 1, []) := rfl
set_option maxRecDepth 100000 in
theorem jk_189_b12 {L : Nat} {xs : Nat → Int32}  {h : jH} {o : ((Unit ⊕ Nat) × jH)} (e : jd_189_b12  h = some o) : ∀ lv : jL, ey (mm_xt L xs) 1 189 12 lv [] h (jres_v o) := by
  intro lv 
  unfold jd_189_b12 at e
  obtain ⟨u2, e3, e⟩ := jbind e
  cases e
  exact ey_throw (st := []) (f := (2, 178, 445, 182, 1)) (cd_189 rfl) mt_189 rfl rfl rfl (j6_s e3) (jsml_s rfl)
set_option maxRecDepth 100000 in
theorem ok_189 {L : Nat} {xs : Nat → Int32} {p0 : Option Nat} {p1 : Int} {h : jH} {o : ((Unit ⊕ Nat) × jH)} (e : jd_189 p0 p1 h = some o) : mm_Runs (mm_xt L xs) 2 189 ([jR p0, jI p1].map jcv) (jaH h) (jres_v o) := by
  refine ey_run0 _ mt_189 (jsl_s rfl) ?_
  unfold jd_189 at e
  refine ey_iload_n (cd_189 rfl) rfl ?_
  by_cases q1 : (jw p1) < 0
  · rw [if_pos q1] at e
    refine ey_zlt (cd_189 rfl) rfl rfl q1 ?_
    exact jk_189_b12 e (jlf (jla 0 [jR p0, jI p1])) 
  · rw [if_neg q1] at e
    refine ey_ylt (cd_189 rfl) rfl rfl q1 ?_
    refine ey_iload_n (cd_189 rfl) rfl ?_
    refine ey_aload_n (cd_189 rfl) rfl ?_
    obtain ⟨a4, e5, e⟩ := jbind e
    refine ey_rs (s0 := [jR p0, jI p1]) (s1 := [jR (some a4), jI p1]) (by rw [e5]) ?_
    obtain ⟨u6, e7, e⟩ := jbind e
    obtain ⟨v8, e9, e⟩ := jbind e
    refine ey_cv (s0 := [jR (some a4), jI p1]) (s1 := [jI p1]) (st' := [jI v8, jI p1]) (cd_189 rfl) mt_189 mt_41 rfl rfl rfl (jck_s e7) rfl (jsml_s rfl) rfl (ok_41 e9) ?_
    by_cases q10 : (jw p1) < (jw v8)
    · rw [if_pos q10] at e
      refine ey_clt (cd_189 rfl) rfl rfl rfl q10 ?_
      cases e
      exact ey_retv (cd_189 rfl) mt_189 rfl
    · rw [if_neg q10] at e
      refine ey_nlt (cd_189 rfl) rfl rfl rfl q10 ?_
      exact jk_189_b12 e (jlf (jla 0 [jR p0, jI p1])) 
theorem cd_160 {pc : Nat} {i : Instr × Nat} (h : mm_lk mm_c160 pc = some i) : mm_cd 160 pc = some i := h
theorem mt_160 : mm_MT 160 = (11, 6, some .int, 4, 0, []) := rfl
set_option maxRecDepth 100000 in
theorem jk_160_b68 {L : Nat} {xs : Nat → Int32} {this : Nat} {x2 : Int} {x3 : Int} {x4 : Int} {x5 : Option Nat} {h : jH} {o : ((Int ⊕ Nat) × jH)} (e : jd_160_b68 this x2 x3 x4 x5 h = some o) : ∀ lv : jL, lv 2 = some (jI x2) → lv 3 = some (jI x3) → lv 4 = some (jI x4) → lv 5 = some (jR x5) → ey (mm_xt L xs) 2 160 68 lv [] h (jres_i o) := by
  intro lv f2 f3 f4 f5
  unfold jd_160_b68 at e
  refine ey_aload (cd_160 rfl) f5 ?_
  obtain ⟨a33, e34, e⟩ := jbind e
  refine ey_rs (s0 := [jR x5]) (s1 := [jR (some a33)]) (by rw [e34]) ?_
  obtain ⟨r35, e36, e⟩ := jbind e
  refine ey_getf_r (cd_160 rfl) mt_160 rfl rfl rfl e36 ?_
  refine ey_iload_n (cd_160 rfl) f2 ?_
  refine ey_bipush (cd_160 rfl) (by decide) ?_
  refine ey_imul (cd_160 rfl) ?_
  refine ey_iload_n (cd_160 rfl) f3 ?_
  refine ey_iadd (cd_160 rfl) ?_
  refine ey_bipush (cd_160 rfl) (by decide) ?_
  refine ey_imul (cd_160 rfl) ?_
  refine ey_iload (cd_160 rfl) f4 ?_
  refine ey_iadd (cd_160 rfl) ?_
  obtain ⟨a37, e38, e⟩ := jbind e
  refine ey_rs (s0 := [jI ((((x2 * 9) + x3) * 7) + x4), jR r35]) (s1 := [jI ((((x2 * 9) + x3) * 7) + x4), jR (some a37)]) (by rw [e38]) ?_
  obtain ⟨v39, e40, e⟩ := jbind e
  refine ey_iald (cd_160 rfl) e40 ?_
  cases e
  exact ey_reti (cd_160 rfl) mt_160 rfl
set_option maxRecDepth 100000 in
theorem ok_160 {L : Nat} {xs : Nat → Int32} {this : Nat} {p0 : Int} {p1 : Int} {p2 : Int} {p3 : Int} {h : jH} {o : ((Int ⊕ Nat) × jH)} (e : jd_160 this p0 p1 p2 p3 h = some o) : mm_Runs (mm_xt L xs) 3 160 ([jR (some this), jI p0, jI p1, jI p2, jI p3].map jcv) (jaH h) (jres_i o) := by
  refine ey_run0 _ mt_160 (jsl_s rfl) ?_
  unfold jd_160 at e
  refine ey_aload_n (cd_160 rfl) rfl ?_
  refine ey_iload_n (cd_160 rfl) rfl ?_
  obtain ⟨u1, e2, e⟩ := jbind e
  rcases jtb_c e with ⟨v5, h7, e4, e⟩ | ⟨E6, h7, e4, e⟩
  rotate_left
  · cases e
    exact ey_cvX (s0 := [jI p0, jR (some this)]) (s1 := []) (cd_160 rfl) mt_160 rfl mt_195 rfl rfl rfl (jck_s e2) rfl (jsml_s rfl) (mm_Runs.up (d := 1) (by decide) (ok_195 e4))
  refine ey_cv (s0 := [jI p0, jR (some this)]) (s1 := []) (st' := [jR (some v5)]) (cd_160 rfl) mt_160 mt_195 rfl rfl rfl (jck_s e2) rfl (jsml_s rfl) rfl (mm_Runs.up (d := 1) (by decide) (ok_195 e4)) ?_
  refine ey_astore (cd_160 rfl) mt_160 rfl ?_
  refine ey_aload (cd_160 rfl) rfl ?_
  refine ey_iload_n (cd_160 rfl) rfl ?_
  rcases jtb_c e with ⟨v10, h12, e9, e⟩ | ⟨E11, h12, e9, e⟩
  rotate_left
  · cases e
    exact ey_csX (s0 := [jI p1, jR (some v5)]) (s1 := []) (cd_160 rfl) mt_160 rfl mt_187 rfl rfl rfl (jsml_s rfl) (mm_Runs.up (d := 1) (by decide) (ok_187 e9))
  refine ey_cs (s0 := [jI p1, jR (some v5)]) (s1 := []) (st' := []) (cd_160 rfl) mt_160 mt_187 rfl (by decide) rfl rfl (jsml_s rfl) rfl (mm_Runs.up (d := 1) (by decide) (ok_187 e9)) ?_
  refine ey_aload (cd_160 rfl) rfl ?_
  obtain ⟨v13, e14, e⟩ := jbind e
  refine ey_getf_i (cd_160 rfl) mt_160 rfl rfl rfl e14 ?_
  by_cases q15 : (jw v13) = 0
  · rw [if_pos q15] at e
    refine ey_zeq (cd_160 rfl) rfl rfl q15 ?_
    refine ey_aload (cd_160 rfl) rfl ?_
    refine ey_iload_n (cd_160 rfl) rfl ?_
    rcases jtb_c e with ⟨v18, h20, e17, e⟩ | ⟨E19, h20, e17, e⟩
    rotate_left
    · cases e
      exact ey_csX (s0 := [jI p2, jR (some v5)]) (s1 := []) (cd_160 rfl) mt_160 rfl mt_189 rfl rfl rfl (jsml_s rfl) (ok_189 e17)
    refine ey_cs (s0 := [jI p2, jR (some v5)]) (s1 := []) (st' := []) (cd_160 rfl) mt_160 mt_189 rfl (by decide) rfl rfl (jsml_s rfl) rfl (ok_189 e17) ?_
    refine ey_iload (cd_160 rfl) (jup_pi (lv := (jlf (jla 0 [jR (some this), jI p0, jI p1, jI p2, jI p3]))) (j := 4) (v := jR (some v5)) (z := p3) rfl) ?_
    refine ey_bipush (cd_160 rfl) (by decide) ?_
    rcases jtb_c e with ⟨v23, h25, e22, e⟩ | ⟨E24, h25, e22, e⟩
    rotate_left
    · cases e
      exact ey_csX (s0 := [jI 6, jI p3]) (s1 := []) (cd_160 rfl) mt_160 rfl mt_185 rfl rfl rfl (jsml_s rfl) (mm_Runs.up (d := 1) (by decide) (ok_185 e22))
    refine ey_cs (s0 := [jI 6, jI p3]) (s1 := []) (st' := []) (cd_160 rfl) mt_160 mt_185 rfl (by decide) rfl rfl (jsml_s rfl) rfl (mm_Runs.up (d := 1) (by decide) (ok_185 e22)) ?_
    refine ey_aload (cd_160 rfl) rfl ?_
    obtain ⟨r26, e27, e⟩ := jbind e
    refine ey_getf_r (cd_160 rfl) mt_160 rfl rfl rfl e27 ?_
    refine ey_iload_n (cd_160 rfl) rfl ?_
    obtain ⟨a28, e29, e⟩ := jbind e
    refine ey_rs (s0 := [jI p1, jR r26]) (s1 := [jI p1, jR (some a28)]) (by rw [e29]) ?_
    obtain ⟨v30, e31, e⟩ := jbind e
    refine ey_iald (cd_160 rfl) e31 ?_
    by_cases q32 : (jw v30) < 0
    · rw [if_pos q32] at e
      refine ey_zlt (cd_160 rfl) rfl rfl q32 ?_
      exact jk_160_b68 e (jup (jlf (jla 0 [jR (some this), jI p0, jI p1, jI p2, jI p3])) 5 (jR (some v5))) rfl rfl (jup_pi (lv := (jlf (jla 0 [jR (some this), jI p0, jI p1, jI p2, jI p3]))) (j := 4) (v := jR (some v5)) (z := p3) rfl) rfl
    · rw [if_neg q32] at e
      refine ey_ylt (cd_160 rfl) rfl rfl q32 ?_
      refine ey_iload_n (cd_160 rfl) rfl ?_
      refine ey_aload (cd_160 rfl) rfl ?_
      obtain ⟨r41, e42, e⟩ := jbind e
      refine ey_getf_r (cd_160 rfl) mt_160 rfl rfl rfl e42 ?_
      refine ey_iload_n (cd_160 rfl) rfl ?_
      obtain ⟨a43, e44, e⟩ := jbind e
      refine ey_rs (s0 := [jI p1, jR r41, jI p2]) (s1 := [jI p1, jR (some a43), jI p2]) (by rw [e44]) ?_
      obtain ⟨v45, e46, e⟩ := jbind e
      refine ey_iald (cd_160 rfl) e46 ?_
      by_cases q47 : (jw p2) < (jw v45)
      · rw [if_pos q47] at e
        refine ey_clt (cd_160 rfl) rfl rfl rfl q47 ?_
        exact jk_160_b68 e (jup (jlf (jla 0 [jR (some this), jI p0, jI p1, jI p2, jI p3])) 5 (jR (some v5))) rfl rfl (jup_pi (lv := (jlf (jla 0 [jR (some this), jI p0, jI p1, jI p2, jI p3]))) (j := 4) (v := jR (some v5)) (z := p3) rfl) rfl
      · rw [if_neg q47] at e
        refine ey_nlt (cd_160 rfl) rfl rfl rfl q47 ?_
        refine ey_iconst (cd_160 rfl) ?_
        cases e
        exact ey_reti (cd_160 rfl) mt_160 rfl
  · rw [if_neg q15] at e
    refine ey_yeq (cd_160 rfl) rfl rfl q15 ?_
    obtain ⟨u48, e49, e⟩ := jbind e
    cases e
    exact ey_throw (st := []) (f := (2, 178, 299, 182, 1)) (cd_160 rfl) mt_160 rfl rfl rfl (j6_s e49) (jsml_s rfl)
theorem cd_188 {pc : Nat} {i : Instr × Nat} (h : mm_lk mm_c188 pc = some i) : mm_cd 188 pc = some i := h
theorem mt_188 : mm_MT 188 = (11, 2, none, 2, 1, []) := rfl
set_option maxRecDepth 100000 in
theorem jk_188_b12 {L : Nat} {xs : Nat → Int32}  {h : jH} {o : ((Unit ⊕ Nat) × jH)} (e : jd_188_b12  h = some o) : ∀ lv : jL, ey (mm_xt L xs) 0 188 12 lv [] h (jres_v o) := by
  intro lv 
  unfold jd_188_b12 at e
  obtain ⟨u2, e3, e⟩ := jbind e
  cases e
  exact ey_throw (st := []) (f := (2, 178, 440, 182, 1)) (cd_188 rfl) mt_188 rfl rfl rfl (j6_s e3) (jsml_s rfl)
set_option maxRecDepth 100000 in
theorem ok_188 {L : Nat} {xs : Nat → Int32} {p0 : Option Nat} {p1 : Int} {h : jH} {o : ((Unit ⊕ Nat) × jH)} (e : jd_188 p0 p1 h = some o) : mm_Runs (mm_xt L xs) 1 188 ([jR p0, jI p1].map jcv) (jaH h) (jres_v o) := by
  refine ey_run0 _ mt_188 (jsl_s rfl) ?_
  unfold jd_188 at e
  refine ey_iload_n (cd_188 rfl) rfl ?_
  by_cases q1 : (jw p1) < 0
  · rw [if_pos q1] at e
    refine ey_zlt (cd_188 rfl) rfl rfl q1 ?_
    exact jk_188_b12 e (jlf (jla 0 [jR p0, jI p1])) 
  · rw [if_neg q1] at e
    refine ey_ylt (cd_188 rfl) rfl rfl q1 ?_
    refine ey_iload_n (cd_188 rfl) rfl ?_
    refine ey_aload_n (cd_188 rfl) rfl ?_
    obtain ⟨a4, e5, e⟩ := jbind e
    refine ey_rs (s0 := [jR p0, jI p1]) (s1 := [jR (some a4), jI p1]) (by rw [e5]) ?_
    obtain ⟨v6, e7, e⟩ := jbind e
    refine ey_getf_i (cd_188 rfl) mt_188 rfl rfl rfl e7 ?_
    by_cases q8 : (jw p1) < (jw v6)
    · rw [if_pos q8] at e
      refine ey_clt (cd_188 rfl) rfl rfl rfl q8 ?_
      cases e
      exact ey_retv (cd_188 rfl) mt_188 rfl
    · rw [if_neg q8] at e
      refine ey_nlt (cd_188 rfl) rfl rfl rfl q8 ?_
      exact jk_188_b12 e (jlf (jla 0 [jR p0, jI p1])) 
theorem cd_192 {pc : Nat} {i : Instr × Nat} (h : mm_lk mm_c192 pc = some i) : mm_cd 192 pc = some i := h
theorem mt_192 : mm_MT 192 = (11, 2, some (.object RX6), 2, 1, []) := rfl
set_option maxRecDepth 100000 in
theorem ok_192 {L : Nat} {xs : Nat → Int32} {p0 : Option Nat} {p1 : Int} {h : jH} {o : ((Nat ⊕ Nat) × jH)} (e : jd_192 p0 p1 h = some o) : mm_Runs (mm_xt L xs) 2 192 ([jR p0, jI p1].map jcv) (jaH h) (jres_a o) := by
  refine ey_run0 _ mt_192 (jsl_s rfl) ?_
  unfold jd_192 at e
  refine ey_aload_n (cd_192 rfl) rfl ?_
  refine ey_iload_n (cd_192 rfl) rfl ?_
  rcases jtb_c e with ⟨v3, h5, e2, e⟩ | ⟨E4, h5, e2, e⟩
  rotate_left
  · cases e
    exact ey_csX (s0 := [jI p1, jR p0]) (s1 := []) (cd_192 rfl) mt_192 rfl mt_188 rfl rfl rfl (jsml_s rfl) (ok_188 e2)
  refine ey_cs (s0 := [jI p1, jR p0]) (s1 := []) (st' := []) (cd_192 rfl) mt_192 mt_188 rfl (by decide) rfl rfl (jsml_s rfl) rfl (ok_188 e2) ?_
  refine ey_aload_n (cd_192 rfl) rfl ?_
  obtain ⟨a6, e7, e⟩ := jbind e
  refine ey_rs (s0 := [jR p0]) (s1 := [jR (some a6)]) (by rw [e7]) ?_
  obtain ⟨r8, e9, e⟩ := jbind e
  refine ey_getf_r (cd_192 rfl) mt_192 rfl rfl rfl e9 ?_
  refine ey_aload_n (cd_192 rfl) rfl ?_
  obtain ⟨a10, e11, e⟩ := jbind e
  refine ey_rs (s0 := [jR p0, jR r8]) (s1 := [jR (some a10), jR r8]) (by rw [e11]) ?_
  obtain ⟨r12, e13, e⟩ := jbind e
  refine ey_getf_r (cd_192 rfl) mt_192 rfl rfl rfl e13 ?_
  refine ey_iload_n (cd_192 rfl) rfl ?_
  obtain ⟨a14, e15, e⟩ := jbind e
  refine ey_rs (s0 := [jI p1, jR r12, jR r8]) (s1 := [jI p1, jR (some a14), jR r8]) (by rw [e15]) ?_
  obtain ⟨v16, e17, e⟩ := jbind e
  refine ey_iald (cd_192 rfl) e17 ?_
  obtain ⟨a18, e19, e⟩ := jbind e
  refine ey_rs (s0 := [jI v16, jR r8]) (s1 := [jI v16, jR (some a18)]) (by rw [e19]) ?_
  obtain ⟨r20, e21, e⟩ := jbind e
  refine ey_aald (cd_192 rfl) (by decide) e21 ?_
  obtain ⟨a22, e23, e⟩ := jbind e
  refine ey_rs (s0 := [jR r20]) (s1 := [jR (some a22)]) (by rw [e23]) ?_
  cases e
  exact ey_reta (cd_192 rfl) mt_192 rfl
theorem cd_161 {pc : Nat} {i : Instr × Nat} (h : mm_lk mm_c161 pc = some i) : mm_cd 161 pc = some i := h
theorem mt_161 : mm_MT 161 = (11, 7, some .int, 5, 0, []) := rfl
set_option maxRecDepth 100000 in
theorem ok_161 {L : Nat} {xs : Nat → Int32} {this : Nat} {p0 : Int} {p1 : Int} {p2 : Int} {p3 : Int} {p4 : Int} {h : jH} {o : ((Int ⊕ Nat) × jH)} (e : jd_161 this p0 p1 p2 p3 p4 h = some o) : mm_Runs (mm_xt L xs) 3 161 ([jR (some this), jI p0, jI p1, jI p2, jI p3, jI p4].map jcv) (jaH h) (jres_i o) := by
  refine ey_run0 _ mt_161 (jsl_s rfl) ?_
  unfold jd_161 at e
  refine ey_aload_n (cd_161 rfl) rfl ?_
  refine ey_iload_n (cd_161 rfl) rfl ?_
  obtain ⟨u1, e2, e⟩ := jbind e
  rcases jtb_c e with ⟨v5, h7, e4, e⟩ | ⟨E6, h7, e4, e⟩
  rotate_left
  · cases e
    exact ey_cvX (s0 := [jI p0, jR (some this)]) (s1 := []) (cd_161 rfl) mt_161 rfl mt_195 rfl rfl rfl (jck_s e2) rfl (jsml_s rfl) (mm_Runs.up (d := 1) (by decide) (ok_195 e4))
  refine ey_cv (s0 := [jI p0, jR (some this)]) (s1 := []) (st' := [jR (some v5)]) (cd_161 rfl) mt_161 mt_195 rfl rfl rfl (jck_s e2) rfl (jsml_s rfl) rfl (mm_Runs.up (d := 1) (by decide) (ok_195 e4)) ?_
  refine ey_iload_n (cd_161 rfl) rfl ?_
  rcases jtb_c e with ⟨v10, h12, e9, e⟩ | ⟨E11, h12, e9, e⟩
  rotate_left
  · cases e
    exact ey_csX (s0 := [jI p1, jR (some v5)]) (s1 := []) (cd_161 rfl) mt_161 rfl mt_192 rfl rfl rfl (jsml_s rfl) (ok_192 e9)
  refine ey_cs (s0 := [jI p1, jR (some v5)]) (s1 := []) (st' := [jR (some v10)]) (cd_161 rfl) mt_161 mt_192 rfl (by decide) rfl rfl (jsml_s rfl) rfl (ok_192 e9) ?_
  refine ey_astore (cd_161 rfl) mt_161 rfl ?_
  refine ey_aload (cd_161 rfl) rfl ?_
  obtain ⟨r13, e14, e⟩ := jbind e
  refine ey_getf_r (cd_161 rfl) mt_161 rfl rfl rfl e14 ?_
  refine ey_aload (cd_161 rfl) rfl ?_
  refine ey_iload_n (cd_161 rfl) rfl ?_
  refine ey_iload (cd_161 rfl) rfl ?_
  refine ey_iload (cd_161 rfl) (jup_pi (lv := (jlf (jla 0 [jR (some this), jI p0, jI p1, jI p2, jI p3, jI p4]))) (j := 5) (v := jR (some v10)) (z := p4) rfl) ?_
  rcases jtb_c e with ⟨v17, h19, e16, e⟩ | ⟨E18, h19, e16, e⟩
  rotate_left
  · cases e
    exact ey_csX (s0 := [jI p4, jI p3, jI p2, jR (some v10), jR r13]) (s1 := [jR r13]) (cd_161 rfl) mt_161 rfl mt_191 rfl rfl rfl (jsml_s rfl) (ok_191 e16)
  refine ey_cs (s0 := [jI p4, jI p3, jI p2, jR (some v10), jR r13]) (s1 := [jR r13]) (st' := [jI v17, jR r13]) (cd_161 rfl) mt_161 mt_191 rfl (by decide) rfl rfl (jsml_s rfl) rfl (ok_191 e16) ?_
  obtain ⟨a20, e21, e⟩ := jbind e
  refine ey_rs (s0 := [jI v17, jR r13]) (s1 := [jI v17, jR (some a20)]) (by rw [e21]) ?_
  obtain ⟨v22, e23, e⟩ := jbind e
  refine ey_iald (cd_161 rfl) e23 ?_
  cases e
  exact ey_reti (cd_161 rfl) mt_161 rfl
theorem cd_162 {pc : Nat} {i : Instr × Nat} (h : mm_lk mm_c162 pc = some i) : mm_cd 162 pc = some i := h
theorem mt_162 : mm_MT 162 = (11, 7, some .boolean, 5, 0, []) := rfl
set_option maxRecDepth 100000 in
theorem ok_162 {L : Nat} {xs : Nat → Int32} {this : Nat} {p0 : Int} {p1 : Int} {p2 : Int} {p3 : Int} {p4 : Int} {h : jH} {o : ((Int ⊕ Nat) × jH)} (e : jd_162 this p0 p1 p2 p3 p4 h = some o) : mm_Runs (mm_xt L xs) 3 162 ([jR (some this), jI p0, jI p1, jI p2, jI p3, jI p4].map jcv) (jaH h) (jres_i o) := by
  refine ey_run0 _ mt_162 (jsl_s rfl) ?_
  unfold jd_162 at e
  refine ey_aload_n (cd_162 rfl) rfl ?_
  refine ey_iload_n (cd_162 rfl) rfl ?_
  obtain ⟨u1, e2, e⟩ := jbind e
  rcases jtb_c e with ⟨v5, h7, e4, e⟩ | ⟨E6, h7, e4, e⟩
  rotate_left
  · cases e
    exact ey_cvX (s0 := [jI p0, jR (some this)]) (s1 := []) (cd_162 rfl) mt_162 rfl mt_195 rfl rfl rfl (jck_s e2) rfl (jsml_s rfl) (mm_Runs.up (d := 1) (by decide) (ok_195 e4))
  refine ey_cv (s0 := [jI p0, jR (some this)]) (s1 := []) (st' := [jR (some v5)]) (cd_162 rfl) mt_162 mt_195 rfl rfl rfl (jck_s e2) rfl (jsml_s rfl) rfl (mm_Runs.up (d := 1) (by decide) (ok_195 e4)) ?_
  refine ey_astore (cd_162 rfl) mt_162 rfl ?_
  refine ey_aload (cd_162 rfl) rfl ?_
  refine ey_iload_n (cd_162 rfl) rfl ?_
  rcases jtb_c e with ⟨v10, h12, e9, e⟩ | ⟨E11, h12, e9, e⟩
  rotate_left
  · cases e
    exact ey_csX (s0 := [jI p1, jR (some v5)]) (s1 := []) (cd_162 rfl) mt_162 rfl mt_192 rfl rfl rfl (jsml_s rfl) (ok_192 e9)
  refine ey_cs (s0 := [jI p1, jR (some v5)]) (s1 := []) (st' := [jR (some v10)]) (cd_162 rfl) mt_162 mt_192 rfl (by decide) rfl rfl (jsml_s rfl) rfl (ok_192 e9) ?_
  refine ey_iload_n (cd_162 rfl) rfl ?_
  refine ey_iload (cd_162 rfl) rfl ?_
  refine ey_iload (cd_162 rfl) (jup_pi (lv := (jlf (jla 0 [jR (some this), jI p0, jI p1, jI p2, jI p3, jI p4]))) (j := 5) (v := jR (some v5)) (z := p4) rfl) ?_
  rcases jtb_c e with ⟨v15, h17, e14, e⟩ | ⟨E16, h17, e14, e⟩
  rotate_left
  · cases e
    exact ey_csX (s0 := [jI p4, jI p3, jI p2, jR (some v10)]) (s1 := []) (cd_162 rfl) mt_162 rfl mt_191 rfl rfl rfl (jsml_s rfl) (ok_191 e14)
  refine ey_cs (s0 := [jI p4, jI p3, jI p2, jR (some v10)]) (s1 := []) (st' := [jI v15]) (cd_162 rfl) mt_162 mt_191 rfl (by decide) rfl rfl (jsml_s rfl) rfl (ok_191 e14) ?_
  refine ey_pop (cd_162 rfl) rfl ?_
  refine ey_aload (cd_162 rfl) rfl ?_
  refine ey_aload (cd_162 rfl) rfl ?_
  obtain ⟨r18, e19, e⟩ := jbind e
  refine ey_getf_r (cd_162 rfl) mt_162 rfl rfl rfl e19 ?_
  refine ey_iload_n (cd_162 rfl) rfl ?_
  obtain ⟨a20, e21, e⟩ := jbind e
  refine ey_rs (s0 := [jI p1, jR r18, jR (some v5)]) (s1 := [jI p1, jR (some a20), jR (some v5)]) (by rw [e21]) ?_
  obtain ⟨v22, e23, e⟩ := jbind e
  refine ey_iald (cd_162 rfl) e23 ?_
  refine ey_iload_n (cd_162 rfl) rfl ?_
  refine ey_iload (cd_162 rfl) rfl ?_
  refine ey_iload (cd_162 rfl) (jup_pi (lv := (jlf (jla 0 [jR (some this), jI p0, jI p1, jI p2, jI p3, jI p4]))) (j := 5) (v := jR (some v5)) (z := p4) rfl) ?_
  obtain ⟨u24, e25, e⟩ := jbind e
  obtain ⟨v26, e27, e⟩ := jbind e
  refine ey_cv (s0 := [jI p4, jI p3, jI p2, jI v22, jR (some v5)]) (s1 := []) (st' := [jI v26]) (cd_162 rfl) mt_162 mt_43 rfl rfl rfl (jck_s e25) rfl (jsml_s rfl) rfl (ok_43 e27) ?_
  obtain ⟨u28, e29, e⟩ := jbind e
  cases e
  exact ey_retz (cd_162 rfl) mt_162 rfl (jbc_s e29)
theorem cd_163 {pc : Nat} {i : Instr × Nat} (h : mm_lk mm_c163 pc = some i) : mm_cd 163 pc = some i := h
theorem mt_163 : mm_MT 163 = (11, 4, some .int, 2, 0, []) := rfl
set_option maxRecDepth 100000 in
theorem ok_163 {L : Nat} {xs : Nat → Int32} {this : Nat} {p0 : Int} {p1 : Int} {h : jH} {o : ((Int ⊕ Nat) × jH)} (e : jd_163 this p0 p1 h = some o) : mm_Runs (mm_xt L xs) 3 163 ([jR (some this), jI p0, jI p1].map jcv) (jaH h) (jres_i o) := by
  refine ey_run0 _ mt_163 (jsl_s rfl) ?_
  unfold jd_163 at e
  refine ey_aload_n (cd_163 rfl) rfl ?_
  refine ey_iload_n (cd_163 rfl) rfl ?_
  obtain ⟨u1, e2, e⟩ := jbind e
  rcases jtb_c e with ⟨v5, h7, e4, e⟩ | ⟨E6, h7, e4, e⟩
  rotate_left
  · cases e
    exact ey_cvX (s0 := [jI p0, jR (some this)]) (s1 := []) (cd_163 rfl) mt_163 rfl mt_195 rfl rfl rfl (jck_s e2) rfl (jsml_s rfl) (mm_Runs.up (d := 1) (by decide) (ok_195 e4))
  refine ey_cv (s0 := [jI p0, jR (some this)]) (s1 := []) (st' := [jR (some v5)]) (cd_163 rfl) mt_163 mt_195 rfl rfl rfl (jck_s e2) rfl (jsml_s rfl) rfl (mm_Runs.up (d := 1) (by decide) (ok_195 e4)) ?_
  refine ey_iload_n (cd_163 rfl) rfl ?_
  rcases jtb_c e with ⟨v10, h12, e9, e⟩ | ⟨E11, h12, e9, e⟩
  rotate_left
  · cases e
    exact ey_csX (s0 := [jI p1, jR (some v5)]) (s1 := []) (cd_163 rfl) mt_163 rfl mt_192 rfl rfl rfl (jsml_s rfl) (ok_192 e9)
  refine ey_cs (s0 := [jI p1, jR (some v5)]) (s1 := []) (st' := [jR (some v10)]) (cd_163 rfl) mt_163 mt_192 rfl (by decide) rfl rfl (jsml_s rfl) rfl (ok_192 e9) ?_
  refine ey_astore_n (cd_163 rfl) mt_163 rfl ?_
  refine ey_aload_n (cd_163 rfl) rfl ?_
  obtain ⟨u13, e14, e⟩ := jbind e
  rcases jtb_c e with ⟨v17, h19, e16, e⟩ | ⟨E18, h19, e16, e⟩
  rotate_left
  · cases e
    exact ey_cvX (s0 := [jR (some this)]) (s1 := []) (cd_163 rfl) mt_163 rfl mt_194 rfl rfl rfl (jck_s e14) rfl (jsml_s rfl) (ok_194 e16)
  refine ey_cv (s0 := [jR (some this)]) (s1 := []) (st' := [jR (some v17)]) (cd_163 rfl) mt_163 mt_194 rfl rfl rfl (jck_s e14) rfl (jsml_s rfl) rfl (ok_194 e16) ?_
  refine ey_aload_n (cd_163 rfl) rfl ?_
  obtain ⟨u20, e21, e⟩ := jbind e
  obtain ⟨h22, e23, e⟩ := jbind e
  refine ey_cv (s0 := [jR (some v10), jR (some v17)]) (s1 := []) (st' := []) (cd_163 rfl) mt_163 mt_102 rfl rfl rfl (jck_s e21) rfl (jsml_s rfl) rfl (ok_102 e23) ?_
  refine ey_aload_n (cd_163 rfl) rfl ?_
  refine ey_dup (cd_163 rfl) rfl ?_
  obtain ⟨v24, e25, e⟩ := jbind e
  refine ey_getf_i (cd_163 rfl) mt_163 rfl rfl rfl e25 ?_
  refine ey_dupx1 (cd_163 rfl) rfl rfl ?_
  refine ey_iconst (cd_163 rfl) ?_
  refine ey_iadd (cd_163 rfl) ?_
  obtain ⟨h26, e27, e⟩ := jbind e
  refine ey_putf_i (cd_163 rfl) mt_163 rfl rfl rfl e27 ?_
  cases e
  exact ey_reti (cd_163 rfl) mt_163 rfl
theorem cd_164 {pc : Nat} {i : Instr × Nat} (h : mm_lk mm_c164 pc = some i) : mm_cd 164 pc = some i := h
theorem mt_164 : mm_MT 164 = (11, 9, some .int, 4, 0, []) := rfl
set_option maxRecDepth 100000 in
theorem jk_164_b65 {L : Nat} {xs : Nat → Int32} {this : Nat}  {h : jH} {o : ((Int ⊕ Nat) × jH)} (e : jd_164_b65 this  h = some o) : ∀ lv : jL, ey (mm_xt L xs) 1 164 65 lv [] h (jres_i o) := by
  intro lv 
  unfold jd_164_b65 at e
  obtain ⟨u17, e18, e⟩ := jbind e
  cases e
  exact ey_throw (st := []) (f := (0, 85, 318, 89, 1)) (cd_164 rfl) mt_164 rfl rfl rfl (j6_s e18) (jsml_s rfl)
set_option maxRecDepth 100000 in
theorem jk_164_s84 {L : Nat} {xs : Nat → Int32} {this : Nat} {x2 : Int} {x3 : Int} {x4 : Int} {x5 : Option Nat} {x7 : Int} {x8 : Int} {h : jH} {o : ((Int × Int) ⊕ Int)} {r : mm_R} (e : jd_164_s84 this x2 x3 x4 x5 x7 x8 h = some o) (K : jsm (fun s => (∀ lv : jL, lv 2 = some (jI x2) → lv 3 = some (jI x3) → lv 4 = some (jI x4) → lv 5 = some (jR x5) → lv 7 = some (jI s.1) → lv 8 = some (jI s.2) → ey (mm_xt L xs) 1 164 84 lv [] h r)) (fun x => (∀ lv : jL, lv 7 = some (jI x) → ey (mm_xt L xs) 1 164 119 lv [] h r)) o) : ∀ lv : jL, lv 2 = some (jI x2) → lv 3 = some (jI x3) → lv 4 = some (jI x4) → lv 5 = some (jR x5) → lv 7 = some (jI x7) → lv 8 = some (jI x8) → ey (mm_xt L xs) 1 164 84 lv [] h r := by
  intro lv f2 f3 f4 f5 f7 f8
  unfold jd_164_s84 at e
  refine ey_iload (cd_164 rfl) f8 ?_
  refine ey_iload_n (cd_164 rfl) f2 ?_
  by_cases q25 : (jw x2) < (jw x8)
  · rw [if_pos q25] at e
    refine ey_cgt (cd_164 rfl) rfl rfl rfl q25 ?_
    cases e
    exact K lv f7
  · rw [if_neg q25] at e
    refine ey_ngt (cd_164 rfl) rfl rfl rfl q25 ?_
    refine ey_iload_n (cd_164 rfl) f3 ?_
    refine ey_iload (cd_164 rfl) f7 ?_
    refine ey_iload (cd_164 rfl) f4 ?_
    refine ey_iadd (cd_164 rfl) ?_
    refine ey_min (cd_164 rfl) mt_164 rfl (jsml_s rfl) ?_
    refine ey_bipush (cd_164 rfl) (by decide) ?_
    refine ey_aload (cd_164 rfl) f5 ?_
    obtain ⟨a26, e27, e⟩ := jbind e
    refine ey_rs (s0 := [jR x5, jI 8, jI (if jw (x7 + x4) < jw x3 then (x7 + x4) else x3)]) (s1 := [jR (some a26), jI 8, jI (if jw (x7 + x4) < jw x3 then (x7 + x4) else x3)]) (by rw [e27]) ?_
    obtain ⟨r28, e29, e⟩ := jbind e
    refine ey_getf_r (cd_164 rfl) mt_164 rfl rfl rfl e29 ?_
    refine ey_iload (cd_164 rfl) f8 ?_
    obtain ⟨a30, e31, e⟩ := jbind e
    refine ey_rs (s0 := [jI x8, jR r28, jI 8, jI (if jw (x7 + x4) < jw x3 then (x7 + x4) else x3)]) (s1 := [jI x8, jR (some a30), jI 8, jI (if jw (x7 + x4) < jw x3 then (x7 + x4) else x3)]) (by rw [e31]) ?_
    obtain ⟨v32, e33, e⟩ := jbind e
    refine ey_iald (cd_164 rfl) e33 ?_
    refine ey_imul (cd_164 rfl) ?_
    refine ey_isub (cd_164 rfl) ?_
    obtain ⟨z34, e35, e⟩ := jbind e
    refine ey_rs (s0 := [jI ((if jw (x7 + x4) < jw x3 then (x7 + x4) else x3) - (8 * v32))]) (s1 := [jI z34]) (by rw [show ((if jw (x7 + x4) < jw x3 then (x7 + x4) else x3) - (8 * v32)) = z34 from Option.some.inj e35]) ?_
    refine ey_istore (cd_164 rfl) mt_164 rfl ?_
    refine ey_iinc (cd_164 rfl) mt_164 rfl f8 ?_
    refine ey_goto (cd_164 rfl) rfl ?_
    cases e
    exact K (jup (jup lv 7 (jI z34)) 8 (jI (x8 + 1))) f2 f3 f4 f5 (jup_pi (lv := (jup lv 7 (jI z34))) (j := 7) (v := jI (x8 + 1)) (z := z34) rfl) rfl
theorem jk_164_l84 {L : Nat} {xs : Nat → Int32} {this : Nat} {x2 : Int} {x3 : Int} {x4 : Int} {x5 : Option Nat} {x7 : Int} {x8 : Int} {h : jH} {x : Int} {r : mm_R} (e : jd_164_l84 this x2 x3 x4 x5 x7 x8 h = some x) (K : (∀ lv : jL, lv 7 = some (jI x) → ey (mm_xt L xs) 1 164 119 lv [] h r)) : ∀ lv : jL, lv 2 = some (jI x2) → lv 3 = some (jI x3) → lv 4 = some (jI x4) → lv 5 = some (jR x5) → lv 7 = some (jI x7) → lv 8 = some (jI x8) → ey (mm_xt L xs) 1 164 84 lv [] h r := by
  unfold jd_164_l84 at e
  exact jlp_ok2 (P := fun s => ∀ lv : jL, lv 2 = some (jI x2) → lv 3 = some (jI x3) → lv 4 = some (jI x4) → lv 5 = some (jR x5) → lv 7 = some (jI s.1) → lv 8 = some (jI s.2) → ey (mm_xt L xs) 1 164 84 lv [] h r) (Q := fun x => (∀ lv : jL, lv 7 = some (jI x) → ey (mm_xt L xs) 1 164 119 lv [] h r)) (fun s q hq hk => jk_164_s84 hq hk) jfu _ x e K
set_option maxRecDepth 100000 in
theorem jk_164_b36 {L : Nat} {xs : Nat → Int32} {this : Nat} {x2 : Int} {x3 : Int} {x4 : Int} {x5 : Option Nat} {y0 : Int} {h : jH} {o : ((Int ⊕ Nat) × jH)} (e : jd_164_b36 this x2 x3 x4 x5 y0 h = some o) : ∀ lv : jL, lv 2 = some (jI x2) → lv 3 = some (jI x3) → lv 4 = some (jI x4) → lv 5 = some (jR x5) → ey (mm_xt L xs) 1 164 36 lv [jI y0] h (jres_i o) := by
  intro lv f2 f3 f4 f5
  unfold jd_164_b36 at e
  refine ey_istore (cd_164 rfl) mt_164 rfl ?_
  refine ey_iload (cd_164 rfl) rfl ?_
  by_cases q16 : (jw y0) = 0
  · rw [if_pos q16] at e
    refine ey_zeq (cd_164 rfl) rfl rfl q16 ?_
    exact jk_164_b65 e (jup lv 6 (jI y0)) 
  · rw [if_neg q16] at e
    refine ey_yeq (cd_164 rfl) rfl rfl q16 ?_
    refine ey_iload (cd_164 rfl) f4 ?_
    refine ey_gs (cd_164 rfl) mt_164 rfl rfl ?_
    refine ey_bipush (cd_164 rfl) (by decide) ?_
    obtain ⟨v19, e20, e⟩ := jbind e
    refine ey_iast_x (cd_164 rfl) (by decide) e20 ?_
    by_cases q21 : (jw x4) < (jw v19)
    · rw [if_pos q21] at e
      refine ey_clt (cd_164 rfl) rfl rfl rfl q21 ?_
      exact jk_164_b65 e (jup lv 6 (jI y0)) 
    · rw [if_neg q21] at e
      refine ey_nlt (cd_164 rfl) rfl rfl rfl q21 ?_
      refine ey_iload (cd_164 rfl) f4 ?_
      refine ey_gs (cd_164 rfl) mt_164 rfl rfl ?_
      refine ey_bipush (cd_164 rfl) (by decide) ?_
      obtain ⟨v22, e23, e⟩ := jbind e
      refine ey_iast_x (cd_164 rfl) (by decide) e23 ?_
      by_cases q24 : (jw x4) ≤ (jw v22)
      · rw [if_pos q24] at e
        refine ey_cle (cd_164 rfl) rfl rfl rfl q24 ?_
        refine ey_iload_n (cd_164 rfl) f3 ?_
        refine ey_iconst (cd_164 rfl) ?_
        refine ey_idiv (cd_164 rfl) (by decide) ?_
        refine ey_istore (cd_164 rfl) mt_164 rfl ?_
        refine ey_iconst (cd_164 rfl) ?_
        refine ey_istore (cd_164 rfl) mt_164 rfl ?_
        obtain ⟨x36, e37, e⟩ := jbind e
        refine jk_164_l84 e37 ?_ (jup (jup (jup lv 6 (jI y0)) 7 (jI (jdiv x3 2))) 8 (jI 0)) f2 f3 f4 (jup_o rfl (jup_o rfl (jup_pr (lv := lv) (j := 5) (v := jI y0) (z := x5) f5))) (jup_pi (lv := (jup (jup lv 6 (jI y0)) 7 (jI (jdiv x3 2)))) (j := 7) (v := jI 0) (z := (jdiv x3 2)) rfl) rfl
        intro lv g7
        refine ey_iload (cd_164 rfl) g7 ?_
        cases e
        exact ey_reti (cd_164 rfl) mt_164 rfl
      · rw [if_neg q24] at e
        refine ey_nle (cd_164 rfl) rfl rfl rfl q24 ?_
        exact jk_164_b65 e (jup lv 6 (jI y0)) 
set_option maxRecDepth 100000 in
theorem ok_164 {L : Nat} {xs : Nat → Int32} {this : Nat} {p0 : Int} {p1 : Int} {p2 : Int} {p3 : Int} {h : jH} {o : ((Int ⊕ Nat) × jH)} (e : jd_164 this p0 p1 p2 p3 h = some o) : mm_Runs (mm_xt L xs) 2 164 ([jR (some this), jI p0, jI p1, jI p2, jI p3].map jcv) (jaH h) (jres_i o) := by
  refine ey_run0 _ mt_164 (jsl_s rfl) ?_
  unfold jd_164 at e
  refine ey_aload_n (cd_164 rfl) rfl ?_
  refine ey_iload_n (cd_164 rfl) rfl ?_
  obtain ⟨u1, e2, e⟩ := jbind e
  rcases jtb_c e with ⟨v5, h7, e4, e⟩ | ⟨E6, h7, e4, e⟩
  rotate_left
  · cases e
    exact ey_cvX (s0 := [jI p0, jR (some this)]) (s1 := []) (cd_164 rfl) mt_164 rfl mt_195 rfl rfl rfl (jck_s e2) rfl (jsml_s rfl) (ok_195 e4)
  refine ey_cv (s0 := [jI p0, jR (some this)]) (s1 := []) (st' := [jR (some v5)]) (cd_164 rfl) mt_164 mt_195 rfl rfl rfl (jck_s e2) rfl (jsml_s rfl) rfl (ok_195 e4) ?_
  refine ey_astore (cd_164 rfl) mt_164 rfl ?_
  refine ey_aload (cd_164 rfl) rfl ?_
  refine ey_iload_n (cd_164 rfl) rfl ?_
  rcases jtb_c e with ⟨v10, h12, e9, e⟩ | ⟨E11, h12, e9, e⟩
  rotate_left
  · cases e
    exact ey_csX (s0 := [jI p1, jR (some v5)]) (s1 := []) (cd_164 rfl) mt_164 rfl mt_187 rfl rfl rfl (jsml_s rfl) (ok_187 e9)
  refine ey_cs (s0 := [jI p1, jR (some v5)]) (s1 := []) (st' := []) (cd_164 rfl) mt_164 mt_187 rfl (by decide) rfl rfl (jsml_s rfl) rfl (ok_187 e9) ?_
  refine ey_iload_n (cd_164 rfl) rfl ?_
  refine ey_gs (cd_164 rfl) mt_164 rfl rfl ?_
  refine ey_iconst (cd_164 rfl) ?_
  obtain ⟨v13, e14, e⟩ := jbind e
  refine ey_iast_x (cd_164 rfl) (by decide) e14 ?_
  by_cases q15 : (jw p2) < (jw v13)
  · rw [if_pos q15] at e
    refine ey_clt (cd_164 rfl) rfl rfl rfl q15 ?_
    refine ey_iconst (cd_164 rfl) ?_
    exact jk_164_b36 e (jup (jlf (jla 0 [jR (some this), jI p0, jI p1, jI p2, jI p3])) 5 (jR (some v5))) rfl rfl (jup_pi (lv := (jlf (jla 0 [jR (some this), jI p0, jI p1, jI p2, jI p3]))) (j := 4) (v := jR (some v5)) (z := p3) rfl) rfl
  · rw [if_neg q15] at e
    refine ey_nlt (cd_164 rfl) rfl rfl rfl q15 ?_
    refine ey_iload_n (cd_164 rfl) rfl ?_
    refine ey_gs (cd_164 rfl) mt_164 rfl rfl ?_
    refine ey_iconst (cd_164 rfl) ?_
    obtain ⟨v38, e39, e⟩ := jbind e
    refine ey_iast_x (cd_164 rfl) (by decide) e39 ?_
    have K40 : ∀ lv : jL, lv 2 = some (jI p1) → lv 3 = some (jI p2) → lv 4 = some (jI p3) → lv 5 = some (jR (some v5)) → ey (mm_xt L xs) 1 164 36 lv [jI (if (jw v38) < (jw p2) then 0 else 1)] h12 (jres_i o) := by
      intro lv g2 g3 g4 g5
      exact jk_164_b36 e lv g2 g3 g4 g5
    by_cases q41 : (jw v38) < (jw p2)
    · refine ey_cgt (cd_164 rfl) rfl rfl rfl q41 ?_
      refine ey_iconst (cd_164 rfl) ?_
      exact ey_rs (s0 := [jI 0]) (s1 := [jI (if (jw v38) < (jw p2) then 0 else 1)]) (by rw [show ((if (jw v38) < (jw p2) then 0 else 1) : Int) = 0 from (if_pos q41)]) (K40 (jup (jlf (jla 0 [jR (some this), jI p0, jI p1, jI p2, jI p3])) 5 (jR (some v5))) rfl rfl (jup_pi (lv := (jlf (jla 0 [jR (some this), jI p0, jI p1, jI p2, jI p3]))) (j := 4) (v := jR (some v5)) (z := p3) rfl) rfl)
    · refine ey_ngt (cd_164 rfl) rfl rfl rfl q41 ?_
      refine ey_iconst (cd_164 rfl) ?_
      refine ey_goto (cd_164 rfl) rfl ?_
      exact ey_rs (s0 := [jI 1]) (s1 := [jI (if (jw v38) < (jw p2) then 0 else 1)]) (by rw [show ((if (jw v38) < (jw p2) then 0 else 1) : Int) = 1 from (if_neg q41)]) (K40 (jup (jlf (jla 0 [jR (some this), jI p0, jI p1, jI p2, jI p3])) 5 (jR (some v5))) rfl rfl (jup_pi (lv := (jlf (jla 0 [jR (some this), jI p0, jI p1, jI p2, jI p3]))) (j := 4) (v := jR (some v5)) (z := p3) rfl) rfl)
theorem cd_165 {pc : Nat} {i : Instr × Nat} (h : mm_lk mm_c165 pc = some i) : mm_cd 165 pc = some i := h
theorem mt_165 : mm_MT 165 = (11, 5, some .int, 3, 0, []) := rfl
set_option maxRecDepth 100000 in
theorem jk_165_b32 {L : Nat} {xs : Nat → Int32} {this : Nat}  {h : jH} {o : ((Int ⊕ Nat) × jH)} (e : jd_165_b32 this  h = some o) : ∀ lv : jL, ey (mm_xt L xs) 1 165 32 lv [] h (jres_i o) := by
  intro lv 
  unfold jd_165_b32 at e
  obtain ⟨u57, e58, e⟩ := jbind e
  cases e
  exact ey_throw (st := []) (f := (0, 85, 323, 89, 1)) (cd_165 rfl) mt_165 rfl rfl rfl (j6_s e58) (jsml_s rfl)
set_option maxRecDepth 100000 in
theorem ok_165 {L : Nat} {xs : Nat → Int32} {this : Nat} {p0 : Int} {p1 : Int} {p2 : Int} {h : jH} {o : ((Int ⊕ Nat) × jH)} (e : jd_165 this p0 p1 p2 h = some o) : mm_Runs (mm_xt L xs) 2 165 ([jR (some this), jI p0, jI p1, jI p2].map jcv) (jaH h) (jres_i o) := by
  refine ey_run0 _ mt_165 (jsl_s rfl) ?_
  unfold jd_165 at e
  refine ey_aload_n (cd_165 rfl) rfl ?_
  refine ey_iload_n (cd_165 rfl) rfl ?_
  obtain ⟨u1, e2, e⟩ := jbind e
  rcases jtb_c e with ⟨v5, h7, e4, e⟩ | ⟨E6, h7, e4, e⟩
  rotate_left
  · cases e
    exact ey_cvX (s0 := [jI p0, jR (some this)]) (s1 := []) (cd_165 rfl) mt_165 rfl mt_195 rfl rfl rfl (jck_s e2) rfl (jsml_s rfl) (ok_195 e4)
  refine ey_cv (s0 := [jI p0, jR (some this)]) (s1 := []) (st' := [jR (some v5)]) (cd_165 rfl) mt_165 mt_195 rfl rfl rfl (jck_s e2) rfl (jsml_s rfl) rfl (ok_195 e4) ?_
  refine ey_astore (cd_165 rfl) mt_165 rfl ?_
  refine ey_aload (cd_165 rfl) rfl ?_
  refine ey_iload_n (cd_165 rfl) rfl ?_
  rcases jtb_c e with ⟨v10, h12, e9, e⟩ | ⟨E11, h12, e9, e⟩
  rotate_left
  · cases e
    exact ey_csX (s0 := [jI p1, jR (some v5)]) (s1 := []) (cd_165 rfl) mt_165 rfl mt_188 rfl rfl rfl (jsml_s rfl) (ok_188 e9)
  refine ey_cs (s0 := [jI p1, jR (some v5)]) (s1 := []) (st' := []) (cd_165 rfl) mt_165 mt_188 rfl (by decide) rfl rfl (jsml_s rfl) rfl (ok_188 e9) ?_
  refine ey_aload (cd_165 rfl) rfl ?_
  refine ey_iload_n (cd_165 rfl) (jup_pi (lv := (jlf (jla 0 [jR (some this), jI p0, jI p1, jI p2]))) (j := 3) (v := jR (some v5)) (z := p2) rfl) ?_
  rcases jtb_c e with ⟨v15, h17, e14, e⟩ | ⟨E16, h17, e14, e⟩
  rotate_left
  · cases e
    exact ey_csX (s0 := [jI p2, jR (some v5)]) (s1 := []) (cd_165 rfl) mt_165 rfl mt_188 rfl rfl rfl (jsml_s rfl) (ok_188 e14)
  refine ey_cs (s0 := [jI p2, jR (some v5)]) (s1 := []) (st' := []) (cd_165 rfl) mt_165 mt_188 rfl (by decide) rfl rfl (jsml_s rfl) rfl (ok_188 e14) ?_
  refine ey_aload (cd_165 rfl) rfl ?_
  obtain ⟨v18, e19, e⟩ := jbind e
  refine ey_getf_i (cd_165 rfl) mt_165 rfl rfl rfl e19 ?_
  by_cases q20 : (jw v18) = 0
  · rw [if_pos q20] at e
    refine ey_yne (cd_165 rfl) rfl rfl (fun w => w q20) ?_
    refine ey_iload_n (cd_165 rfl) (jup_pi (lv := (jlf (jla 0 [jR (some this), jI p0, jI p1, jI p2]))) (j := 3) (v := jR (some v5)) (z := p2) rfl) ?_
    refine ey_iload_n (cd_165 rfl) rfl ?_
    by_cases q21 : (jw p1) ≤ (jw p2)
    · rw [if_pos q21] at e
      refine ey_cge (cd_165 rfl) rfl rfl rfl q21 ?_
      refine ey_aload_n (cd_165 rfl) rfl ?_
      obtain ⟨v22, e23, e⟩ := jbind e
      refine ey_getf_i (cd_165 rfl) mt_165 rfl rfl rfl e23 ?_
      refine ey_bipush (cd_165 rfl) (by decide) ?_
      by_cases q24 : (jw v22) < 8
      · rw [if_pos q24] at e
        refine ey_clt (cd_165 rfl) rfl rfl (show jw 8 = 8 from by decide) q24 ?_
        refine ey_aload_n (cd_165 rfl) rfl ?_
        obtain ⟨r25, e26, e⟩ := jbind e
        refine ey_getf_r (cd_165 rfl) mt_165 rfl rfl rfl e26 ?_
        refine ey_iconst (cd_165 rfl) ?_
        refine ey_aload_n (cd_165 rfl) rfl ?_
        obtain ⟨v27, e28, e⟩ := jbind e
        refine ey_getf_i (cd_165 rfl) mt_165 rfl rfl rfl e28 ?_
        refine ey_imul (cd_165 rfl) ?_
        refine ey_iload_n (cd_165 rfl) rfl ?_
        obtain ⟨a29, e30, e⟩ := jbind e
        refine ey_rs (s0 := [jI p0, jI (3 * v27), jR r25]) (s1 := [jI p0, jI (3 * v27), jR (some a29)]) (by rw [e30]) ?_
        obtain ⟨h31, e32, e⟩ := jbind e
        refine ey_iast (cd_165 rfl) e32 ?_
        refine ey_aload_n (cd_165 rfl) rfl ?_
        obtain ⟨r33, e34, e⟩ := jbind e
        refine ey_getf_r (cd_165 rfl) mt_165 rfl rfl rfl e34 ?_
        refine ey_iconst (cd_165 rfl) ?_
        refine ey_aload_n (cd_165 rfl) rfl ?_
        obtain ⟨v35, e36, e⟩ := jbind e
        refine ey_getf_i (cd_165 rfl) mt_165 rfl rfl rfl e36 ?_
        refine ey_imul (cd_165 rfl) ?_
        refine ey_iconst (cd_165 rfl) ?_
        refine ey_iadd (cd_165 rfl) ?_
        refine ey_iload_n (cd_165 rfl) rfl ?_
        obtain ⟨a37, e38, e⟩ := jbind e
        refine ey_rs (s0 := [jI p1, jI ((3 * v35) + 1), jR r33]) (s1 := [jI p1, jI ((3 * v35) + 1), jR (some a37)]) (by rw [e38]) ?_
        obtain ⟨h39, e40, e⟩ := jbind e
        refine ey_iast (cd_165 rfl) e40 ?_
        refine ey_aload_n (cd_165 rfl) rfl ?_
        obtain ⟨r41, e42, e⟩ := jbind e
        refine ey_getf_r (cd_165 rfl) mt_165 rfl rfl rfl e42 ?_
        refine ey_iconst (cd_165 rfl) ?_
        refine ey_aload_n (cd_165 rfl) rfl ?_
        obtain ⟨v43, e44, e⟩ := jbind e
        refine ey_getf_i (cd_165 rfl) mt_165 rfl rfl rfl e44 ?_
        refine ey_imul (cd_165 rfl) ?_
        refine ey_iconst (cd_165 rfl) ?_
        refine ey_iadd (cd_165 rfl) ?_
        refine ey_iload_n (cd_165 rfl) (jup_pi (lv := (jlf (jla 0 [jR (some this), jI p0, jI p1, jI p2]))) (j := 3) (v := jR (some v5)) (z := p2) rfl) ?_
        obtain ⟨a45, e46, e⟩ := jbind e
        refine ey_rs (s0 := [jI p2, jI ((3 * v43) + 2), jR r41]) (s1 := [jI p2, jI ((3 * v43) + 2), jR (some a45)]) (by rw [e46]) ?_
        obtain ⟨h47, e48, e⟩ := jbind e
        refine ey_iast (cd_165 rfl) e48 ?_
        refine ey_aload_n (cd_165 rfl) rfl ?_
        refine ey_dup (cd_165 rfl) rfl ?_
        obtain ⟨v49, e50, e⟩ := jbind e
        refine ey_getf_i (cd_165 rfl) mt_165 rfl rfl rfl e50 ?_
        refine ey_iconst (cd_165 rfl) ?_
        refine ey_iadd (cd_165 rfl) ?_
        obtain ⟨h51, e52, e⟩ := jbind e
        refine ey_putf_i (cd_165 rfl) mt_165 rfl rfl rfl e52 ?_
        refine ey_aload_n (cd_165 rfl) rfl ?_
        obtain ⟨v53, e54, e⟩ := jbind e
        refine ey_getf_i (cd_165 rfl) mt_165 rfl rfl rfl e54 ?_
        cases e
        exact ey_reti (cd_165 rfl) mt_165 rfl
      · rw [if_neg q24] at e
        refine ey_nlt (cd_165 rfl) rfl rfl (show jw 8 = 8 from by decide) q24 ?_
        obtain ⟨u55, e56, e⟩ := jbind e
        cases e
        exact ey_throw (st := []) (f := (1, 173, 325, 177, 1)) (cd_165 rfl) mt_165 rfl rfl rfl (j6_s e56) (jsml_s rfl)
    · rw [if_neg q21] at e
      refine ey_nge (cd_165 rfl) rfl rfl rfl q21 ?_
      exact jk_165_b32 e (jup (jlf (jla 0 [jR (some this), jI p0, jI p1, jI p2])) 4 (jR (some v5))) 
  · rw [if_neg q20] at e
    refine ey_zne (cd_165 rfl) rfl rfl q20 ?_
    exact jk_165_b32 e (jup (jlf (jla 0 [jR (some this), jI p0, jI p1, jI p2])) 4 (jR (some v5))) 
theorem cd_198 {pc : Nat} {i : Instr × Nat} (h : mm_lk mm_c198 pc = some i) : mm_cd 198 pc = some i := h
theorem mt_198 : mm_MT 198 = (11, 4, some .int, 1, 0, []) := rfl
set_option maxRecDepth 100000 in
theorem jk_198_s4 {L : Nat} {xs : Nat → Int32} {this : Nat} {x1 : Int} {x2 : Int} {x3 : Int} {h : jH} {o : ((Int × Int) ⊕ Int)} {r : mm_R} (e : jd_198_s4 this x1 x2 x3 h = some o) (K : jsm (fun s => (∀ lv : jL, lv 0 = some (jR (some this)) → lv 1 = some (jI x1) → lv 2 = some (jI s.1) → lv 3 = some (jI s.2) → ey (mm_xt L xs) 0 198 4 lv [] h r)) (fun x => (∀ lv : jL, lv 2 = some (jI x) → ey (mm_xt L xs) 0 198 41 lv [] h r)) o) : ∀ lv : jL, lv 0 = some (jR (some this)) → lv 1 = some (jI x1) → lv 2 = some (jI x2) → lv 3 = some (jI x3) → ey (mm_xt L xs) 0 198 4 lv [] h r := by
  intro lv f0 f1 f2 f3
  unfold jd_198_s4 at e
  refine ey_iload_n (cd_198 rfl) f3 ?_
  refine ey_iload_n (cd_198 rfl) f1 ?_
  by_cases q1 : (jw x1) ≤ (jw x3)
  · rw [if_pos q1] at e
    refine ey_cge (cd_198 rfl) rfl rfl rfl q1 ?_
    cases e
    exact K lv f2
  · rw [if_neg q1] at e
    refine ey_nge (cd_198 rfl) rfl rfl rfl q1 ?_
    refine ey_iload_n (cd_198 rfl) f2 ?_
    refine ey_aload_n (cd_198 rfl) f0 ?_
    obtain ⟨r2, e3, e⟩ := jbind e
    refine ey_getf_r (cd_198 rfl) mt_198 rfl rfl rfl e3 ?_
    refine ey_iconst (cd_198 rfl) ?_
    refine ey_iload_n (cd_198 rfl) f3 ?_
    refine ey_imul (cd_198 rfl) ?_
    refine ey_iconst (cd_198 rfl) ?_
    refine ey_iadd (cd_198 rfl) ?_
    obtain ⟨a4, e5, e⟩ := jbind e
    refine ey_rs (s0 := [jI ((3 * x3) + 2), jR r2, jI x2]) (s1 := [jI ((3 * x3) + 2), jR (some a4), jI x2]) (by rw [e5]) ?_
    obtain ⟨v6, e7, e⟩ := jbind e
    refine ey_iald (cd_198 rfl) e7 ?_
    refine ey_aload_n (cd_198 rfl) f0 ?_
    obtain ⟨r8, e9, e⟩ := jbind e
    refine ey_getf_r (cd_198 rfl) mt_198 rfl rfl rfl e9 ?_
    refine ey_iconst (cd_198 rfl) ?_
    refine ey_iload_n (cd_198 rfl) f3 ?_
    refine ey_imul (cd_198 rfl) ?_
    refine ey_iconst (cd_198 rfl) ?_
    refine ey_iadd (cd_198 rfl) ?_
    obtain ⟨a10, e11, e⟩ := jbind e
    refine ey_rs (s0 := [jI ((3 * x3) + 1), jR r8, jI v6, jI x2]) (s1 := [jI ((3 * x3) + 1), jR (some a10), jI v6, jI x2]) (by rw [e11]) ?_
    obtain ⟨v12, e13, e⟩ := jbind e
    refine ey_iald (cd_198 rfl) e13 ?_
    refine ey_isub (cd_198 rfl) ?_
    refine ey_iconst (cd_198 rfl) ?_
    refine ey_iadd (cd_198 rfl) ?_
    refine ey_iadd (cd_198 rfl) ?_
    refine ey_istore_n (cd_198 rfl) mt_198 rfl ?_
    refine ey_iinc (cd_198 rfl) mt_198 rfl f3 ?_
    refine ey_goto (cd_198 rfl) rfl ?_
    cases e
    exact K (jup (jup lv 2 (jI (x2 + ((v6 - v12) + 1)))) 3 (jI (x3 + 1))) f0 (jup_o rfl (jup_pi (lv := lv) (j := 1) (v := jI (x2 + ((v6 - v12) + 1))) (z := x1) f1)) (jup_pi (lv := (jup lv 2 (jI (x2 + ((v6 - v12) + 1))))) (j := 2) (v := jI (x3 + 1)) (z := (x2 + ((v6 - v12) + 1))) rfl) rfl
theorem jk_198_l4 {L : Nat} {xs : Nat → Int32} {this : Nat} {x1 : Int} {x2 : Int} {x3 : Int} {h : jH} {x : Int} {r : mm_R} (e : jd_198_l4 this x1 x2 x3 h = some x) (K : (∀ lv : jL, lv 2 = some (jI x) → ey (mm_xt L xs) 0 198 41 lv [] h r)) : ∀ lv : jL, lv 0 = some (jR (some this)) → lv 1 = some (jI x1) → lv 2 = some (jI x2) → lv 3 = some (jI x3) → ey (mm_xt L xs) 0 198 4 lv [] h r := by
  unfold jd_198_l4 at e
  exact jlp_ok2 (P := fun s => ∀ lv : jL, lv 0 = some (jR (some this)) → lv 1 = some (jI x1) → lv 2 = some (jI s.1) → lv 3 = some (jI s.2) → ey (mm_xt L xs) 0 198 4 lv [] h r) (Q := fun x => (∀ lv : jL, lv 2 = some (jI x) → ey (mm_xt L xs) 0 198 41 lv [] h r)) (fun s q hq hk => jk_198_s4 hq hk) jfu _ x e K
set_option maxRecDepth 100000 in
theorem ok_198 {L : Nat} {xs : Nat → Int32} {this : Nat} {p0 : Int} {h : jH} {o : Int} (e : jd_198 this p0 h = some o) : mm_Runs (mm_xt L xs) 1 198 ([jR (some this), jI p0].map jcv) (jaH h) (.inl (some (jcv (jI o)), jaH h)) := by
  refine ey_run0 _ mt_198 (jsl_s rfl) ?_
  unfold jd_198 at e
  refine ey_iconst (cd_198 rfl) ?_
  refine ey_istore_n (cd_198 rfl) mt_198 rfl ?_
  refine ey_iconst (cd_198 rfl) ?_
  refine ey_istore_n (cd_198 rfl) mt_198 rfl ?_
  obtain ⟨x14, e15, e⟩ := jbind e
  refine jk_198_l4 e15 ?_ (jup (jup (jlf (jla 0 [jR (some this), jI p0])) 2 (jI 0)) 3 (jI 0)) rfl (jup_o rfl (jup_pi (lv := (jlf (jla 0 [jR (some this), jI p0]))) (j := 1) (v := jI 0) (z := p0) rfl)) (jup_pi (lv := (jup (jlf (jla 0 [jR (some this), jI p0])) 2 (jI 0))) (j := 2) (v := jI 0) (z := 0) rfl) rfl
  intro lv g2
  refine ey_iload_n (cd_198 rfl) g2 ?_
  cases e
  exact ey_reti (cd_198 rfl) mt_198 rfl
theorem cd_199 {pc : Nat} {i : Instr × Nat} (h : mm_lk mm_c199 pc = some i) : mm_cd 199 pc = some i := h
theorem mt_199 : mm_MT 199 = (11, 5, some .boolean, 1, 0, []) := rfl
set_option maxRecDepth 100000 in
theorem jk_199_b14 {L : Nat} {xs : Nat → Int32} {this : Nat}  {h : jH} {o : Int} (e : jd_199_b14 this  h = some o) : ∀ lv : jL, ey (mm_xt L xs) 1 199 14 lv [] h (.inl (some (jcv (jI o)), jaH h)) := by
  intro lv 
  unfold jd_199_b14 at e
  refine ey_iconst (cd_199 rfl) ?_
  cases e
  exact ey_retz (cd_199 rfl) mt_199 rfl (Or.inl rfl)
set_option maxRecDepth 100000 in
theorem jk_199_s30 {L : Nat} {xs : Nat → Int32} {this : Nat} {x1 : Int} {x2 : Option Nat} {x3 : Int} {h : jH} {o : (Int ⊕ (Unit ⊕ Unit))} {r : mm_R} (e : jd_199_s30 this x1 x2 x3 h = some o) (K : jsm (fun s => (∀ lv : jL, lv 0 = some (jR (some this)) → lv 1 = some (jI x1) → lv 2 = some (jR x2) → lv 3 = some (jI s) → ey (mm_xt L xs) 1 199 30 lv [] h r)) (fun x => (jsm (fun y => (∀ lv : jL, ey (mm_xt L xs) 1 199 74 lv [] h r)) (fun z => (∀ lv : jL, ey (mm_xt L xs) 1 199 82 lv [] h r)) x)) o) : ∀ lv : jL, lv 0 = some (jR (some this)) → lv 1 = some (jI x1) → lv 2 = some (jR x2) → lv 3 = some (jI x3) → ey (mm_xt L xs) 1 199 30 lv [] h r := by
  intro lv f0 f1 f2 f3
  unfold jd_199_s30 at e
  refine ey_iload_n (cd_199 rfl) f3 ?_
  refine ey_iload_n (cd_199 rfl) f1 ?_
  by_cases q19 : (jw x1) ≤ (jw x3)
  · rw [if_pos q19] at e
    refine ey_cge (cd_199 rfl) rfl rfl rfl q19 ?_
    cases e
    exact K lv 
  · rw [if_neg q19] at e
    refine ey_nge (cd_199 rfl) rfl rfl rfl q19 ?_
    refine ey_aload_n (cd_199 rfl) f0 ?_
    obtain ⟨r20, e21, e⟩ := jbind e
    refine ey_getf_r (cd_199 rfl) mt_199 rfl rfl rfl e21 ?_
    refine ey_aload_n (cd_199 rfl) f0 ?_
    obtain ⟨r22, e23, e⟩ := jbind e
    refine ey_getf_r (cd_199 rfl) mt_199 rfl rfl rfl e23 ?_
    refine ey_iconst (cd_199 rfl) ?_
    refine ey_iload_n (cd_199 rfl) f3 ?_
    refine ey_imul (cd_199 rfl) ?_
    obtain ⟨a24, e25, e⟩ := jbind e
    refine ey_rs (s0 := [jI (3 * x3), jR r22, jR r20]) (s1 := [jI (3 * x3), jR (some a24), jR r20]) (by rw [e25]) ?_
    obtain ⟨v26, e27, e⟩ := jbind e
    refine ey_iald (cd_199 rfl) e27 ?_
    obtain ⟨a28, e29, e⟩ := jbind e
    refine ey_rs (s0 := [jI v26, jR r20]) (s1 := [jI v26, jR (some a28)]) (by rw [e29]) ?_
    obtain ⟨r30, e31, e⟩ := jbind e
    refine ey_aald (cd_199 rfl) (by decide) e31 ?_
    refine ey_astore (cd_199 rfl) mt_199 rfl ?_
    refine ey_aload (cd_199 rfl) rfl ?_
    obtain ⟨a32, e33, e⟩ := jbind e
    refine ey_rs (s0 := [jR r30]) (s1 := [jR (some a32)]) (by rw [e33]) ?_
    obtain ⟨v34, e35, e⟩ := jbind e
    refine ey_getf_i (cd_199 rfl) mt_199 rfl rfl rfl e35 ?_
    refine ey_aload_n (cd_199 rfl) f2 ?_
    obtain ⟨a36, e37, e⟩ := jbind e
    refine ey_rs (s0 := [jR x2, jI v34]) (s1 := [jR (some a36), jI v34]) (by rw [e37]) ?_
    obtain ⟨v38, e39, e⟩ := jbind e
    refine ey_getf_i (cd_199 rfl) mt_199 rfl rfl rfl e39 ?_
    by_cases q40 : (jw v34) = (jw v38)
    · rw [if_pos q40] at e
      refine ey_nne (cd_199 rfl) rfl rfl rfl (fun w => w q40) ?_
      refine ey_aload (cd_199 rfl) rfl ?_
      obtain ⟨a41, e42, e⟩ := jbind e
      refine ey_rs (s0 := [jR r30]) (s1 := [jR (some a41)]) (by rw [e42]) ?_
      obtain ⟨v43, e44, e⟩ := jbind e
      refine ey_getf_i (cd_199 rfl) mt_199 rfl rfl rfl e44 ?_
      refine ey_aload_n (cd_199 rfl) f2 ?_
      obtain ⟨a45, e46, e⟩ := jbind e
      refine ey_rs (s0 := [jR x2, jI v43]) (s1 := [jR (some a45), jI v43]) (by rw [e46]) ?_
      obtain ⟨v47, e48, e⟩ := jbind e
      refine ey_getf_i (cd_199 rfl) mt_199 rfl rfl rfl e48 ?_
      by_cases q49 : (jw v43) = (jw v47)
      · rw [if_pos q49] at e
        refine ey_ceq (cd_199 rfl) rfl rfl rfl q49 ?_
        refine ey_iinc (cd_199 rfl) mt_199 rfl (jup_pi (lv := lv) (j := 3) (v := jR r30) (z := x3) f3) ?_
        refine ey_goto (cd_199 rfl) rfl ?_
        cases e
        exact K (jup (jup lv 4 (jR r30)) 3 (jI (x3 + 1))) f0 f1 (jup_pr (lv := (jup lv 4 (jR r30))) (j := 2) (v := jI (x3 + 1)) (z := x2) f2) rfl
      · rw [if_neg q49] at e
        refine ey_neq (cd_199 rfl) rfl rfl rfl q49 ?_
        cases e
        exact K (jup lv 4 (jR r30)) 
    · rw [if_neg q40] at e
      refine ey_cne (cd_199 rfl) rfl rfl rfl q40 ?_
      cases e
      exact K (jup lv 4 (jR r30)) 
theorem jk_199_l30 {L : Nat} {xs : Nat → Int32} {this : Nat} {x1 : Int} {x2 : Option Nat} {x3 : Int} {h : jH} {x : (Unit ⊕ Unit)} {r : mm_R} (e : jd_199_l30 this x1 x2 x3 h = some x) (K : (jsm (fun y => (∀ lv : jL, ey (mm_xt L xs) 1 199 74 lv [] h r)) (fun z => (∀ lv : jL, ey (mm_xt L xs) 1 199 82 lv [] h r)) x)) : ∀ lv : jL, lv 0 = some (jR (some this)) → lv 1 = some (jI x1) → lv 2 = some (jR x2) → lv 3 = some (jI x3) → ey (mm_xt L xs) 1 199 30 lv [] h r := by
  unfold jd_199_l30 at e
  exact jlp_ok2 (P := fun s => ∀ lv : jL, lv 0 = some (jR (some this)) → lv 1 = some (jI x1) → lv 2 = some (jR x2) → lv 3 = some (jI s) → ey (mm_xt L xs) 1 199 30 lv [] h r) (Q := fun x => (jsm (fun y => (∀ lv : jL, ey (mm_xt L xs) 1 199 74 lv [] h r)) (fun z => (∀ lv : jL, ey (mm_xt L xs) 1 199 82 lv [] h r)) x)) (fun s q hq hk => jk_199_s30 hq hk) jfu _ x e K
set_option maxRecDepth 100000 in
theorem ok_199 {L : Nat} {xs : Nat → Int32} {this : Nat} {p0 : Int} {h : jH} {o : Int} (e : jd_199 this p0 h = some o) : mm_Runs (mm_xt L xs) 2 199 ([jR (some this), jI p0].map jcv) (jaH h) (.inl (some (jcv (jI o)), jaH h)) := by
  refine ey_run0 _ mt_199 (jsl_s rfl) ?_
  unfold jd_199 at e
  refine ey_iload_n (cd_199 rfl) rfl ?_
  by_cases q1 : (jw p0) = 0
  · rw [if_pos q1] at e
    refine ey_zeq (cd_199 rfl) rfl rfl q1 ?_
    exact jk_199_b14 e (jlf (jla 0 [jR (some this), jI p0])) 
  · rw [if_neg q1] at e
    refine ey_yeq (cd_199 rfl) rfl rfl q1 ?_
    refine ey_aload_n (cd_199 rfl) rfl ?_
    refine ey_iload_n (cd_199 rfl) rfl ?_
    obtain ⟨u2, e3, e⟩ := jbind e
    obtain ⟨v4, e5, e⟩ := jbind e
    refine ey_cv (s0 := [jI p0, jR (some this)]) (s1 := []) (st' := [jI v4]) (cd_199 rfl) mt_199 mt_198 rfl rfl rfl (jck_s e3) rfl (jsml_s rfl) rfl (ok_198 e5) ?_
    refine ey_bipush (cd_199 rfl) (by decide) ?_
    by_cases q6 : (jw v4) ≤ 12
    · rw [if_pos q6] at e
      refine ey_cle (cd_199 rfl) rfl rfl (show jw 12 = 12 from by decide) q6 ?_
      refine ey_aload_n (cd_199 rfl) rfl ?_
      obtain ⟨r7, e8, e⟩ := jbind e
      refine ey_getf_r (cd_199 rfl) mt_199 rfl rfl rfl e8 ?_
      refine ey_aload_n (cd_199 rfl) rfl ?_
      obtain ⟨r9, e10, e⟩ := jbind e
      refine ey_getf_r (cd_199 rfl) mt_199 rfl rfl rfl e10 ?_
      refine ey_iconst (cd_199 rfl) ?_
      obtain ⟨a11, e12, e⟩ := jbind e
      refine ey_rs (s0 := [jI 0, jR r9, jR r7]) (s1 := [jI 0, jR (some a11), jR r7]) (by rw [e12]) ?_
      obtain ⟨v13, e14, e⟩ := jbind e
      refine ey_iald (cd_199 rfl) e14 ?_
      obtain ⟨a15, e16, e⟩ := jbind e
      refine ey_rs (s0 := [jI v13, jR r7]) (s1 := [jI v13, jR (some a15)]) (by rw [e16]) ?_
      obtain ⟨r17, e18, e⟩ := jbind e
      refine ey_aald (cd_199 rfl) (by decide) e18 ?_
      refine ey_astore_n (cd_199 rfl) mt_199 rfl ?_
      refine ey_iconst (cd_199 rfl) ?_
      refine ey_istore_n (cd_199 rfl) mt_199 rfl ?_
      obtain ⟨x50, e51, e⟩ := jbind e
      refine jk_199_l30 e51 ?_ (jup (jup (jlf (jla 0 [jR (some this), jI p0])) 2 (jR r17)) 3 (jI 1)) rfl (jup_o rfl (jup_pi (lv := (jlf (jla 0 [jR (some this), jI p0]))) (j := 1) (v := jR r17) (z := p0) rfl)) (jup_pr (lv := (jup (jlf (jla 0 [jR (some this), jI p0])) 2 (jR r17))) (j := 2) (v := jI 1) (z := r17) rfl) rfl
      cases x50 with
      | inl y52 =>
        replace e : (some 0 : Option Int) = some o := e
        intro lv 
        refine ey_iconst (cd_199 rfl) ?_
        cases e
        exact ey_retz (cd_199 rfl) mt_199 rfl (Or.inl rfl)
      | inr y53 =>
        replace e : (some 1 : Option Int) = some o := e
        intro lv 
        refine ey_iconst (cd_199 rfl) ?_
        cases e
        exact ey_retz (cd_199 rfl) mt_199 rfl (Or.inr rfl)
    · rw [if_neg q6] at e
      refine ey_nle (cd_199 rfl) rfl rfl (show jw 12 = 12 from by decide) q6 ?_
      exact jk_199_b14 e (jlf (jla 0 [jR (some this), jI p0])) 
theorem cd_166 {pc : Nat} {i : Instr × Nat} (h : mm_lk mm_c166 pc = some i) : mm_cd 166 pc = some i := h
theorem mt_166 : mm_MT 166 = (11, 4, some .int, 0, 0, []) := rfl
set_option maxRecDepth 100000 in
theorem jk_166_s59 {L : Nat} {xs : Nat → Int32} {this : Nat} {x1 : Option Nat} {x2 : Int} {x3 : Int} {h : jH} {o : ((Int × jH) ⊕ (jH ⊕ jH))} {r : mm_R} (e : jd_166_s59 this x1 x2 x3 h = some o) (K : jsm (fun s => (∀ lv : jL, lv 0 = some (jR (some this)) → lv 1 = some (jR x1) → lv 2 = some (jI x2) → lv 3 = some (jI s.1) → ey (mm_xt L xs) 7 166 59 lv [] s.2 r)) (fun x => (jsm (fun y => (∀ lv : jL, ey (mm_xt L xs) 7 166 108 lv [] y r)) (fun z => (∀ lv : jL, lv 0 = some (jR (some this)) → lv 1 = some (jR x1) → ey (mm_xt L xs) 7 166 116 lv [] z r)) x)) o) : ∀ lv : jL, lv 0 = some (jR (some this)) → lv 1 = some (jR x1) → lv 2 = some (jI x2) → lv 3 = some (jI x3) → ey (mm_xt L xs) 7 166 59 lv [] h r := by
  intro lv f0 f1 f2 f3
  unfold jd_166_s59 at e
  refine ey_iload_n (cd_166 rfl) f3 ?_
  refine ey_iload_n (cd_166 rfl) f2 ?_
  by_cases q47 : (jw x2) ≤ (jw x3)
  · rw [if_pos q47] at e
    refine ey_cge (cd_166 rfl) rfl rfl rfl q47 ?_
    cases e
    exact K lv f0 f1
  · rw [if_neg q47] at e
    refine ey_nge (cd_166 rfl) rfl rfl rfl q47 ?_
    refine ey_aload_n (cd_166 rfl) f0 ?_
    obtain ⟨r48, e49, e⟩ := jbind e
    refine ey_getf_r (cd_166 rfl) mt_166 rfl rfl rfl e49 ?_
    refine ey_aload_n (cd_166 rfl) f1 ?_
    refine ey_aload_n (cd_166 rfl) f0 ?_
    obtain ⟨r50, e51, e⟩ := jbind e
    refine ey_getf_r (cd_166 rfl) mt_166 rfl rfl rfl e51 ?_
    refine ey_aload_n (cd_166 rfl) f0 ?_
    obtain ⟨r52, e53, e⟩ := jbind e
    refine ey_getf_r (cd_166 rfl) mt_166 rfl rfl rfl e53 ?_
    refine ey_iconst (cd_166 rfl) ?_
    refine ey_iload_n (cd_166 rfl) f3 ?_
    refine ey_imul (cd_166 rfl) ?_
    obtain ⟨a54, e55, e⟩ := jbind e
    refine ey_rs (s0 := [jI (3 * x3), jR r52, jR r50, jR x1, jR r48]) (s1 := [jI (3 * x3), jR (some a54), jR r50, jR x1, jR r48]) (by rw [e55]) ?_
    obtain ⟨v56, e57, e⟩ := jbind e
    refine ey_iald (cd_166 rfl) e57 ?_
    obtain ⟨a58, e59, e⟩ := jbind e
    refine ey_rs (s0 := [jI v56, jR r50, jR x1, jR r48]) (s1 := [jI v56, jR (some a58), jR x1, jR r48]) (by rw [e59]) ?_
    obtain ⟨r60, e61, e⟩ := jbind e
    refine ey_aald (cd_166 rfl) (by decide) e61 ?_
    refine ey_aload_n (cd_166 rfl) f0 ?_
    obtain ⟨r62, e63, e⟩ := jbind e
    refine ey_getf_r (cd_166 rfl) mt_166 rfl rfl rfl e63 ?_
    refine ey_iconst (cd_166 rfl) ?_
    refine ey_iload_n (cd_166 rfl) f3 ?_
    refine ey_imul (cd_166 rfl) ?_
    refine ey_iconst (cd_166 rfl) ?_
    refine ey_iadd (cd_166 rfl) ?_
    obtain ⟨a64, e65, e⟩ := jbind e
    refine ey_rs (s0 := [jI ((3 * x3) + 1), jR r62, jR r60, jR x1, jR r48]) (s1 := [jI ((3 * x3) + 1), jR (some a64), jR r60, jR x1, jR r48]) (by rw [e65]) ?_
    obtain ⟨v66, e67, e⟩ := jbind e
    refine ey_iald (cd_166 rfl) e67 ?_
    refine ey_aload_n (cd_166 rfl) f0 ?_
    obtain ⟨r68, e69, e⟩ := jbind e
    refine ey_getf_r (cd_166 rfl) mt_166 rfl rfl rfl e69 ?_
    refine ey_iconst (cd_166 rfl) ?_
    refine ey_iload_n (cd_166 rfl) f3 ?_
    refine ey_imul (cd_166 rfl) ?_
    refine ey_iconst (cd_166 rfl) ?_
    refine ey_iadd (cd_166 rfl) ?_
    obtain ⟨a70, e71, e⟩ := jbind e
    refine ey_rs (s0 := [jI ((3 * x3) + 2), jR r68, jI v66, jR r60, jR x1, jR r48]) (s1 := [jI ((3 * x3) + 2), jR (some a70), jI v66, jR r60, jR x1, jR r48]) (by rw [e71]) ?_
    obtain ⟨v72, e73, e⟩ := jbind e
    refine ey_iald (cd_166 rfl) e73 ?_
    obtain ⟨a74, e75, e⟩ := jbind e
    refine ey_rs (s0 := [jI v72, jI v66, jR r60, jR x1, jR r48]) (s1 := [jI v72, jI v66, jR r60, jR x1, jR (some a74)]) (by rw [e75]) ?_
    obtain ⟨u76, e77, e⟩ := jbind e
    obtain ⟨q78, e79, e⟩ := jbind e
    refine ey_cv (s0 := [jI v72, jI v66, jR r60, jR x1, jR (some a74)]) (s1 := []) (st' := [jI q78.1]) (cd_166 rfl) mt_166 mt_69 rfl rfl rfl (jck_s e77) rfl (jsml_s rfl) rfl (ok_69 e79) ?_
    by_cases q80 : (jw q78.1) = 0
    · rw [if_pos q80] at e
      refine ey_yne (cd_166 rfl) rfl rfl (fun w => w q80) ?_
      cases e
      exact K lv 
    · rw [if_neg q80] at e
      refine ey_zne (cd_166 rfl) rfl rfl q80 ?_
      refine ey_iinc (cd_166 rfl) mt_166 rfl f3 ?_
      refine ey_goto (cd_166 rfl) rfl ?_
      cases e
      exact K (jup lv 3 (jI (x3 + 1))) f0 f1 (jup_pi (lv := lv) (j := 2) (v := jI (x3 + 1)) (z := x2) f2) rfl
theorem jk_166_l59 {L : Nat} {xs : Nat → Int32} {this : Nat} {x1 : Option Nat} {x2 : Int} {x3 : Int} {h : jH} {x : (jH ⊕ jH)} {r : mm_R} (e : jd_166_l59 this x1 x2 x3 h = some x) (K : (jsm (fun y => (∀ lv : jL, ey (mm_xt L xs) 7 166 108 lv [] y r)) (fun z => (∀ lv : jL, lv 0 = some (jR (some this)) → lv 1 = some (jR x1) → ey (mm_xt L xs) 7 166 116 lv [] z r)) x)) : ∀ lv : jL, lv 0 = some (jR (some this)) → lv 1 = some (jR x1) → lv 2 = some (jI x2) → lv 3 = some (jI x3) → ey (mm_xt L xs) 7 166 59 lv [] h r := by
  unfold jd_166_l59 at e
  exact jlp_ok2 (P := fun s => ∀ lv : jL, lv 0 = some (jR (some this)) → lv 1 = some (jR x1) → lv 2 = some (jI x2) → lv 3 = some (jI s.1) → ey (mm_xt L xs) 7 166 59 lv [] s.2 r) (Q := fun x => (jsm (fun y => (∀ lv : jL, ey (mm_xt L xs) 7 166 108 lv [] y r)) (fun z => (∀ lv : jL, lv 0 = some (jR (some this)) → lv 1 = some (jR x1) → ey (mm_xt L xs) 7 166 116 lv [] z r)) x)) (fun s q hq hk => jk_166_s59 hq hk) jfu _ x e K
set_option maxRecDepth 100000 in
theorem ok_166 {L : Nat} {xs : Nat → Int32} {this : Nat}  {h : jH} {o : ((Int ⊕ Nat) × jH)} (e : jd_166 this  h = some o) : mm_Runs (mm_xt L xs) 8 166 ([jR (some this)].map jcv) (jaH h) (jres_i o) := by
  refine ey_run0 _ mt_166 (jsl_s rfl) ?_
  unfold jd_166 at e
  refine ey_aload_n (cd_166 rfl) rfl ?_
  obtain ⟨u1, e2, e⟩ := jbind e
  rcases jtb_c e with ⟨v5, h7, e4, e⟩ | ⟨E6, h7, e4, e⟩
  rotate_left
  · cases e
    exact ey_cvX (s0 := [jR (some this)]) (s1 := []) (cd_166 rfl) mt_166 rfl mt_196 rfl rfl rfl (jck_s e2) rfl (jsml_s rfl) (mm_Runs.up (d := 2) (by decide) (ok_196 e4))
  refine ey_cv (s0 := [jR (some this)]) (s1 := []) (st' := [jR (some v5)]) (cd_166 rfl) mt_166 mt_196 rfl rfl rfl (jck_s e2) rfl (jsml_s rfl) rfl (mm_Runs.up (d := 2) (by decide) (ok_196 e4)) ?_
  refine ey_astore_n (cd_166 rfl) mt_166 rfl ?_
  refine ey_aload_n (cd_166 rfl) (jup_pr (lv := (jlf (jla 0 [jR (some this)]))) (j := 0) (v := jR (some v5)) (z := (some this)) rfl) ?_
  obtain ⟨v8, e9, e⟩ := jbind e
  refine ey_getf_i (cd_166 rfl) mt_166 rfl rfl rfl e9 ?_
  refine ey_istore_n (cd_166 rfl) mt_166 rfl ?_
  refine ey_aload_n (cd_166 rfl) (jup_o rfl (jup_pr (lv := (jlf (jla 0 [jR (some this)]))) (j := 0) (v := jR (some v5)) (z := (some this)) rfl)) ?_
  refine ey_iconst (cd_166 rfl) ?_
  obtain ⟨h10, e11, e⟩ := jbind e
  refine ey_putf_i (cd_166 rfl) mt_166 rfl rfl rfl e11 ?_
  refine ey_aload_n (cd_166 rfl) (jup_o rfl (jup_pr (lv := (jlf (jla 0 [jR (some this)]))) (j := 0) (v := jR (some v5)) (z := (some this)) rfl)) ?_
  refine ey_iload_n (cd_166 rfl) rfl ?_
  obtain ⟨u12, e13, e⟩ := jbind e
  obtain ⟨v14, e15, e⟩ := jbind e
  refine ey_cv (s0 := [jI v8, jR (some this)]) (s1 := []) (st' := [jI v14]) (cd_166 rfl) mt_166 mt_199 rfl rfl rfl (jck_s e13) rfl (jsml_s rfl) rfl (mm_Runs.up (d := 2) (by decide) (ok_199 e15)) ?_
  by_cases q16 : (jw v14) = 0
  · rw [if_pos q16] at e
    refine ey_yne (cd_166 rfl) rfl rfl (fun w => w q16) ?_
    refine ey_iconst (cd_166 rfl) ?_
    cases e
    exact ey_reti (cd_166 rfl) mt_166 rfl
  · rw [if_neg q16] at e
    refine ey_zne (cd_166 rfl) rfl rfl q16 ?_
    refine ey_aload_n (cd_166 rfl) (jup_pr (lv := (jup (jlf (jla 0 [jR (some this)])) 1 (jR (some v5)))) (j := 1) (v := jI v8) (z := (some v5)) rfl) ?_
    obtain ⟨u17, e18, e⟩ := jbind e
    obtain ⟨h19, e20, e⟩ := jbind e
    refine ey_cv (s0 := [jR (some v5)]) (s1 := []) (st' := []) (cd_166 rfl) mt_166 mt_22 rfl rfl rfl (jck_s e18) rfl (jsml_s rfl) rfl (mm_Runs.up (d := 1) (by decide) (ok_22 e20)) ?_
    refine ey_aload_n (cd_166 rfl) (jup_o rfl (jup_pr (lv := (jlf (jla 0 [jR (some this)]))) (j := 0) (v := jR (some v5)) (z := (some this)) rfl)) ?_
    obtain ⟨r21, e22, e⟩ := jbind e
    refine ey_getf_r (cd_166 rfl) mt_166 rfl rfl rfl e22 ?_
    refine ey_aload_n (cd_166 rfl) (jup_pr (lv := (jup (jlf (jla 0 [jR (some this)])) 1 (jR (some v5)))) (j := 1) (v := jI v8) (z := (some v5)) rfl) ?_
    refine ey_aload_n (cd_166 rfl) (jup_o rfl (jup_pr (lv := (jlf (jla 0 [jR (some this)]))) (j := 0) (v := jR (some v5)) (z := (some this)) rfl)) ?_
    obtain ⟨r23, e24, e⟩ := jbind e
    refine ey_getf_r (cd_166 rfl) mt_166 rfl rfl rfl e24 ?_
    refine ey_aload_n (cd_166 rfl) (jup_o rfl (jup_pr (lv := (jlf (jla 0 [jR (some this)]))) (j := 0) (v := jR (some v5)) (z := (some this)) rfl)) ?_
    obtain ⟨r25, e26, e⟩ := jbind e
    refine ey_getf_r (cd_166 rfl) mt_166 rfl rfl rfl e26 ?_
    refine ey_iconst (cd_166 rfl) ?_
    obtain ⟨a27, e28, e⟩ := jbind e
    refine ey_rs (s0 := [jI 0, jR r25, jR r23, jR (some v5), jR r21]) (s1 := [jI 0, jR (some a27), jR r23, jR (some v5), jR r21]) (by rw [e28]) ?_
    obtain ⟨v29, e30, e⟩ := jbind e
    refine ey_iald (cd_166 rfl) e30 ?_
    obtain ⟨a31, e32, e⟩ := jbind e
    refine ey_rs (s0 := [jI v29, jR r23, jR (some v5), jR r21]) (s1 := [jI v29, jR (some a31), jR (some v5), jR r21]) (by rw [e32]) ?_
    obtain ⟨r33, e34, e⟩ := jbind e
    refine ey_aald (cd_166 rfl) (by decide) e34 ?_
    refine ey_aload_n (cd_166 rfl) (jup_o rfl (jup_pr (lv := (jlf (jla 0 [jR (some this)]))) (j := 0) (v := jR (some v5)) (z := (some this)) rfl)) ?_
    refine ey_iload_n (cd_166 rfl) rfl ?_
    obtain ⟨u35, e36, e⟩ := jbind e
    obtain ⟨v37, e38, e⟩ := jbind e
    refine ey_cv (s0 := [jI v8, jR (some this), jR r33, jR (some v5), jR r21]) (s1 := [jR r33, jR (some v5), jR r21]) (st' := [jI v37, jR r33, jR (some v5), jR r21]) (cd_166 rfl) mt_166 mt_198 rfl rfl rfl (jck_s e36) rfl (jsml_s rfl) rfl (mm_Runs.up (d := 1) (by decide) (ok_198 e38)) ?_
    refine ey_aload_n (cd_166 rfl) (jup_o rfl (jup_pr (lv := (jlf (jla 0 [jR (some this)]))) (j := 0) (v := jR (some v5)) (z := (some this)) rfl)) ?_
    obtain ⟨r39, e40, e⟩ := jbind e
    refine ey_getf_r (cd_166 rfl) mt_166 rfl rfl rfl e40 ?_
    obtain ⟨a41, e42, e⟩ := jbind e
    refine ey_rs (s0 := [jR r39, jI v37, jR r33, jR (some v5), jR r21]) (s1 := [jR r39, jI v37, jR r33, jR (some v5), jR (some a41)]) (by rw [e42]) ?_
    obtain ⟨u43, e44, e⟩ := jbind e
    obtain ⟨h45, e46, e⟩ := jbind e
    refine ey_cv (s0 := [jR r39, jI v37, jR r33, jR (some v5), jR (some a41)]) (s1 := []) (st' := []) (cd_166 rfl) mt_166 mt_68 rfl rfl rfl (jck_s e44) rfl (jsml_s rfl) rfl (mm_Runs.up (d := 4) (by decide) (ok_68 e46)) ?_
    refine ey_iconst (cd_166 rfl) ?_
    refine ey_istore_n (cd_166 rfl) mt_166 rfl ?_
    obtain ⟨x81, e82, e⟩ := jbind e
    refine jk_166_l59 e82 ?_ (jup (jup (jup (jlf (jla 0 [jR (some this)])) 1 (jR (some v5))) 2 (jI v8)) 3 (jI 0)) (jup_o rfl (jup_o rfl (jup_pr (lv := (jlf (jla 0 [jR (some this)]))) (j := 0) (v := jR (some v5)) (z := (some this)) rfl))) (jup_o rfl (jup_pr (lv := (jup (jlf (jla 0 [jR (some this)])) 1 (jR (some v5)))) (j := 1) (v := jI v8) (z := (some v5)) rfl)) (jup_pi (lv := (jup (jup (jlf (jla 0 [jR (some this)])) 1 (jR (some v5))) 2 (jI v8))) (j := 2) (v := jI 0) (z := v8) rfl) rfl
    cases x81 with
    | inl y83 =>
      replace e : (some (.inl (-1), y83) : Option ((Int ⊕ Nat) × jH)) = some o := e
      intro lv 
      refine ey_iconst (cd_166 rfl) ?_
      cases e
      exact ey_reti (cd_166 rfl) mt_166 rfl
    | inr y84 =>
      replace e : (((jck y84 this 11).bind fun u85 => ((jd_197 this (some v5) y84).bind fun q87 => some (.inl q87.1, q87.2))) : Option ((Int ⊕ Nat) × jH)) = some o := e
      intro lv g0 g1
      refine ey_aload_n (cd_166 rfl) g0 ?_
      refine ey_aload_n (cd_166 rfl) g1 ?_
      obtain ⟨u85, e86, e⟩ := jbind e
      obtain ⟨q87, e88, e⟩ := jbind e
      refine ey_cv (s0 := [jR (some v5), jR (some this)]) (s1 := []) (st' := [jI q87.1]) (cd_166 rfl) mt_166 mt_197 rfl rfl rfl (jck_s e86) rfl (jsml_s rfl) rfl (ok_197 e88) ?_
      cases e
      exact ey_reti (cd_166 rfl) mt_166 rfl
theorem cd_167 {pc : Nat} {i : Instr × Nat} (h : mm_lk mm_c167 pc = some i) : mm_cd 167 pc = some i := h
theorem mt_167 : mm_MT 167 = (11, 4, some .boolean, 2, 0, []) := rfl
set_option maxRecDepth 100000 in
theorem ok_167 {L : Nat} {xs : Nat → Int32} {this : Nat} {p0 : Int} {p1 : Int} {h : jH} {o : ((Int ⊕ Nat) × jH)} (e : jd_167 this p0 p1 h = some o) : mm_Runs (mm_xt L xs) 2 167 ([jR (some this), jI p0, jI p1].map jcv) (jaH h) (jres_i o) := by
  refine ey_run0 _ mt_167 (jsl_s rfl) ?_
  unfold jd_167 at e
  refine ey_aload_n (cd_167 rfl) rfl ?_
  refine ey_iload_n (cd_167 rfl) rfl ?_
  obtain ⟨u1, e2, e⟩ := jbind e
  rcases jtb_c e with ⟨v5, h7, e4, e⟩ | ⟨E6, h7, e4, e⟩
  rotate_left
  · cases e
    exact ey_cvX (s0 := [jI p0, jR (some this)]) (s1 := []) (cd_167 rfl) mt_167 rfl mt_195 rfl rfl rfl (jck_s e2) rfl (jsml_s rfl) (ok_195 e4)
  refine ey_cv (s0 := [jI p0, jR (some this)]) (s1 := []) (st' := [jR (some v5)]) (cd_167 rfl) mt_167 mt_195 rfl rfl rfl (jck_s e2) rfl (jsml_s rfl) rfl (ok_195 e4) ?_
  refine ey_astore_n (cd_167 rfl) mt_167 rfl ?_
  refine ey_aload_n (cd_167 rfl) rfl ?_
  refine ey_iload_n (cd_167 rfl) (jup_pi (lv := (jlf (jla 0 [jR (some this), jI p0, jI p1]))) (j := 2) (v := jR (some v5)) (z := p1) rfl) ?_
  rcases jtb_c e with ⟨v10, h12, e9, e⟩ | ⟨E11, h12, e9, e⟩
  rotate_left
  · cases e
    exact ey_csX (s0 := [jI p1, jR (some v5)]) (s1 := []) (cd_167 rfl) mt_167 rfl mt_188 rfl rfl rfl (jsml_s rfl) (ok_188 e9)
  refine ey_cs (s0 := [jI p1, jR (some v5)]) (s1 := []) (st' := []) (cd_167 rfl) mt_167 mt_188 rfl (by decide) rfl rfl (jsml_s rfl) rfl (ok_188 e9) ?_
  refine ey_aload_n (cd_167 rfl) rfl ?_
  obtain ⟨r13, e14, e⟩ := jbind e
  refine ey_getf_r (cd_167 rfl) mt_167 rfl rfl rfl e14 ?_
  refine ey_iload_n (cd_167 rfl) (jup_pi (lv := (jlf (jla 0 [jR (some this), jI p0, jI p1]))) (j := 2) (v := jR (some v5)) (z := p1) rfl) ?_
  obtain ⟨a15, e16, e⟩ := jbind e
  refine ey_rs (s0 := [jI p1, jR r13]) (s1 := [jI p1, jR (some a15)]) (by rw [e16]) ?_
  obtain ⟨v17, e18, e⟩ := jbind e
  refine ey_zald (cd_167 rfl) e18 ?_
  obtain ⟨u19, e20, e⟩ := jbind e
  cases e
  exact ey_retz (cd_167 rfl) mt_167 rfl (jbc_s e20)
theorem cd_168 {pc : Nat} {i : Instr × Nat} (h : mm_lk mm_c168 pc = some i) : mm_cd 168 pc = some i := h
theorem mt_168 : mm_MT 168 = (11, 3, some .int, 0, 0, []) := rfl
set_option maxRecDepth 100000 in
theorem jk_168_s17 {L : Nat} {xs : Nat → Int32} {this : Nat} {x1 : Int} {x2 : Int} {h : jH} {o : ((Int × jH) ⊕ jH)} {r : mm_R} (e : jd_168_s17 this x1 x2 h = some o) (K : jsm (fun s => (∀ lv : jL, lv 0 = some (jR (some this)) → lv 1 = some (jI x1) → lv 2 = some (jI s.1) → ey (mm_xt L xs) 0 168 17 lv [] s.2 r)) (fun x => (∀ lv : jL, lv 1 = some (jI x1) → ey (mm_xt L xs) 0 168 38 lv [] x r)) o) : ∀ lv : jL, lv 0 = some (jR (some this)) → lv 1 = some (jI x1) → lv 2 = some (jI x2) → ey (mm_xt L xs) 0 168 17 lv [] h r := by
  intro lv f0 f1 f2
  unfold jd_168_s17 at e
  refine ey_iload_n (cd_168 rfl) f2 ?_
  refine ey_iconst (cd_168 rfl) ?_
  by_cases q7 : 4 ≤ (jw x2)
  · rw [if_pos q7] at e
    refine ey_cge (cd_168 rfl) rfl rfl (show jw 4 = 4 from by decide) q7 ?_
    cases e
    exact K lv f1
  · rw [if_neg q7] at e
    refine ey_nge (cd_168 rfl) rfl rfl (show jw 4 = 4 from by decide) q7 ?_
    refine ey_aload_n (cd_168 rfl) f0 ?_
    obtain ⟨r8, e9, e⟩ := jbind e
    refine ey_getf_r (cd_168 rfl) mt_168 rfl rfl rfl e9 ?_
    refine ey_iload_n (cd_168 rfl) f2 ?_
    obtain ⟨a10, e11, e⟩ := jbind e
    refine ey_rs (s0 := [jI x2, jR r8]) (s1 := [jI x2, jR (some a10)]) (by rw [e11]) ?_
    obtain ⟨r12, e13, e⟩ := jbind e
    refine ey_aald (cd_168 rfl) (by decide) e13 ?_
    refine ey_null (cd_168 rfl) ?_
    obtain ⟨a14, e15, e⟩ := jbind e
    refine ey_rs (s0 := [jR none, jR r12]) (s1 := [jR none, jR (some a14)]) (by rw [e15]) ?_
    obtain ⟨h16, e17, e⟩ := jbind e
    refine ey_putf_r (cd_168 rfl) mt_168 rfl rfl rfl e17 ?_
    refine ey_iinc (cd_168 rfl) mt_168 rfl f2 ?_
    refine ey_goto (cd_168 rfl) rfl ?_
    cases e
    exact K (jup lv 2 (jI (x2 + 1))) f0 (jup_pi (lv := lv) (j := 1) (v := jI (x2 + 1)) (z := x1) f1) rfl
theorem jk_168_l17 {L : Nat} {xs : Nat → Int32} {this : Nat} {x1 : Int} {x2 : Int} {h : jH} {x : jH} {r : mm_R} (e : jd_168_l17 this x1 x2 h = some x) (K : (∀ lv : jL, lv 1 = some (jI x1) → ey (mm_xt L xs) 0 168 38 lv [] x r)) : ∀ lv : jL, lv 0 = some (jR (some this)) → lv 1 = some (jI x1) → lv 2 = some (jI x2) → ey (mm_xt L xs) 0 168 17 lv [] h r := by
  unfold jd_168_l17 at e
  exact jlp_ok2 (P := fun s => ∀ lv : jL, lv 0 = some (jR (some this)) → lv 1 = some (jI x1) → lv 2 = some (jI s.1) → ey (mm_xt L xs) 0 168 17 lv [] s.2 r) (Q := fun x => (∀ lv : jL, lv 1 = some (jI x1) → ey (mm_xt L xs) 0 168 38 lv [] x r)) (fun s q hq hk => jk_168_s17 hq hk) jfu _ x e K
set_option maxRecDepth 100000 in
theorem ok_168 {L : Nat} {xs : Nat → Int32} {this : Nat}  {h : jH} {o : (Int × jH)} (e : jd_168 this  h = some o) : mm_Runs (mm_xt L xs) 1 168 ([jR (some this)].map jcv) (jaH h) (.inl (some (jcv (jI o.1)), jaH o.2)) := by
  refine ey_run0 _ mt_168 (jsl_s rfl) ?_
  unfold jd_168 at e
  refine ey_aload_n (cd_168 rfl) rfl ?_
  obtain ⟨v1, e2, e⟩ := jbind e
  refine ey_getf_i (cd_168 rfl) mt_168 rfl rfl rfl e2 ?_
  refine ey_istore_n (cd_168 rfl) mt_168 rfl ?_
  refine ey_aload_n (cd_168 rfl) (jup_pr (lv := (jlf (jla 0 [jR (some this)]))) (j := 0) (v := jI v1) (z := (some this)) rfl) ?_
  refine ey_iconst (cd_168 rfl) ?_
  obtain ⟨h3, e4, e⟩ := jbind e
  refine ey_putf_i (cd_168 rfl) mt_168 rfl rfl rfl e4 ?_
  refine ey_aload_n (cd_168 rfl) (jup_pr (lv := (jlf (jla 0 [jR (some this)]))) (j := 0) (v := jI v1) (z := (some this)) rfl) ?_
  refine ey_iconst (cd_168 rfl) ?_
  obtain ⟨h5, e6, e⟩ := jbind e
  refine ey_putf_i (cd_168 rfl) mt_168 rfl rfl rfl e6 ?_
  refine ey_iconst (cd_168 rfl) ?_
  refine ey_istore_n (cd_168 rfl) mt_168 rfl ?_
  obtain ⟨x18, e19, e⟩ := jbind e
  refine jk_168_l17 e19 ?_ (jup (jup (jlf (jla 0 [jR (some this)])) 1 (jI v1)) 2 (jI 0)) (jup_o rfl (jup_pr (lv := (jlf (jla 0 [jR (some this)]))) (j := 0) (v := jI v1) (z := (some this)) rfl)) (jup_pi (lv := (jup (jlf (jla 0 [jR (some this)])) 1 (jI v1))) (j := 1) (v := jI 0) (z := v1) rfl) rfl
  intro lv g1
  refine ey_iload_n (cd_168 rfl) g1 ?_
  cases e
  exact ey_reti (cd_168 rfl) mt_168 rfl
theorem cd_169 {pc : Nat} {i : Instr × Nat} (h : mm_lk mm_c169 pc = some i) : mm_cd 169 pc = some i := h
theorem mt_169 : mm_MT 169 = (11, 3, some .int, 0, 0, []) := rfl
set_option maxRecDepth 100000 in
theorem jk_169_b97 {L : Nat} {xs : Nat → Int32} {this : Nat} {y0 : Int} {h : jH} {o : ((Int ⊕ Nat) × jH)} (e : jd_169_b97 this y0 h = some o) : ∀ lv : jL, ey (mm_xt L xs) 70 169 97 lv [jI y0] h (jres_i o) := by
  intro lv 
  unfold jd_169_b97 at e
  cases e
  exact ey_reti (cd_169 rfl) mt_169 rfl
set_option maxRecDepth 100000 in
theorem jk_169_b48 {L : Nat} {xs : Nat → Int32} {this : Nat}  {h : jH} {o : ((Int ⊕ Nat) × jH)} (e : jd_169_b48 this  h = some o) : ∀ lv : jL, lv 0 = some (jR (some this)) → ey (mm_xt L xs) 70 169 48 lv [] h (jres_i o) := by
  intro lv f0
  unfold jd_169_b48 at e
  refine ey_aload_n (cd_169 rfl) f0 ?_
  obtain ⟨v25, e26, e⟩ := jbind e
  refine ey_getf_i (cd_169 rfl) mt_169 rfl rfl rfl e26 ?_
  refine ey_istore_n (cd_169 rfl) mt_169 rfl ?_
  refine ey_aload_n (cd_169 rfl) (jup_pr (lv := lv) (j := 0) (v := jI v25) (z := (some this)) f0) ?_
  refine ey_iconst (cd_169 rfl) ?_
  obtain ⟨h27, e28, e⟩ := jbind e
  refine ey_putf_i (cd_169 rfl) mt_169 rfl rfl rfl e28 ?_
  refine ey_aload_n (cd_169 rfl) (jup_pr (lv := lv) (j := 0) (v := jI v25) (z := (some this)) f0) ?_
  obtain ⟨r29, e30, e⟩ := jbind e
  refine ey_getf_r (cd_169 rfl) mt_169 rfl rfl rfl e30 ?_
  refine ey_aload_n (cd_169 rfl) (jup_pr (lv := lv) (j := 0) (v := jI v25) (z := (some this)) f0) ?_
  obtain ⟨v31, e32, e⟩ := jbind e
  refine ey_getf_i (cd_169 rfl) mt_169 rfl rfl rfl e32 ?_
  obtain ⟨a33, e34, e⟩ := jbind e
  refine ey_rs (s0 := [jI v31, jR r29]) (s1 := [jI v31, jR (some a33)]) (by rw [e34]) ?_
  obtain ⟨r35, e36, e⟩ := jbind e
  refine ey_aald (cd_169 rfl) (by decide) e36 ?_
  refine ey_aload_n (cd_169 rfl) (jup_pr (lv := lv) (j := 0) (v := jI v25) (z := (some this)) f0) ?_
  obtain ⟨r37, e38, e⟩ := jbind e
  refine ey_getf_r (cd_169 rfl) mt_169 rfl rfl rfl e38 ?_
  refine ey_iload_n (cd_169 rfl) rfl ?_
  obtain ⟨a39, e40, e⟩ := jbind e
  refine ey_rs (s0 := [jI v25, jR r37, jR r35]) (s1 := [jI v25, jR r37, jR (some a39)]) (by rw [e40]) ?_
  obtain ⟨u41, e42, e⟩ := jbind e
  obtain ⟨q43, e44, e⟩ := jbind e
  refine ey_cv (s0 := [jI v25, jR r37, jR (some a39)]) (s1 := []) (st' := [jI q43.1]) (cd_169 rfl) mt_169 mt_45 rfl rfl rfl (jck_s e42) rfl (jsml_s rfl) rfl (ok_45 e44) ?_
  refine ey_istore_n (cd_169 rfl) mt_169 rfl ?_
  refine ey_iload_n (cd_169 rfl) rfl ?_
  by_cases q45 : 0 ≤ (jw q43.1)
  · rw [if_pos q45] at e
    refine ey_zge (cd_169 rfl) rfl rfl q45 ?_
    refine ey_iconst (cd_169 rfl) ?_
    refine ey_iload_n (cd_169 rfl) rfl ?_
    refine ey_isub (cd_169 rfl) ?_
    exact jk_169_b97 e (jup (jup lv 1 (jI v25)) 2 (jI q43.1)) 
  · rw [if_neg q45] at e
    refine ey_yge (cd_169 rfl) rfl rfl q45 ?_
    refine ey_aload_n (cd_169 rfl) (jup_o rfl (jup_pr (lv := lv) (j := 0) (v := jI v25) (z := (some this)) f0)) ?_
    refine ey_dup (cd_169 rfl) rfl ?_
    obtain ⟨v46, e47, e⟩ := jbind e
    refine ey_getf_i (cd_169 rfl) mt_169 rfl rfl rfl e47 ?_
    refine ey_dupx1 (cd_169 rfl) rfl rfl ?_
    refine ey_iconst (cd_169 rfl) ?_
    refine ey_iadd (cd_169 rfl) ?_
    obtain ⟨h48, e49, e⟩ := jbind e
    refine ey_putf_i (cd_169 rfl) mt_169 rfl rfl rfl e49 ?_
    refine ey_goto (cd_169 rfl) rfl ?_
    exact jk_169_b97 e (jup (jup lv 1 (jI v25)) 2 (jI q43.1)) 
set_option maxRecDepth 100000 in
theorem ok_169 {L : Nat} {xs : Nat → Int32} {this : Nat}  {h : jH} {o : ((Int ⊕ Nat) × jH)} (e : jd_169 this  h = some o) : mm_Runs (mm_xt L xs) 71 169 ([jR (some this)].map jcv) (jaH h) (jres_i o) := by
  refine ey_run0 _ mt_169 (jsl_s rfl) ?_
  unfold jd_169 at e
  refine ey_aload_n (cd_169 rfl) rfl ?_
  obtain ⟨v1, e2, e⟩ := jbind e
  refine ey_getf_i (cd_169 rfl) mt_169 rfl rfl rfl e2 ?_
  refine ey_bipush (cd_169 rfl) (by decide) ?_
  by_cases q3 : (jw v1) < 8
  · rw [if_pos q3] at e
    refine ey_clt (cd_169 rfl) rfl rfl (show jw 8 = 8 from by decide) q3 ?_
    refine ey_aload_n (cd_169 rfl) rfl ?_
    obtain ⟨r4, e5, e⟩ := jbind e
    refine ey_getf_r (cd_169 rfl) mt_169 rfl rfl rfl e5 ?_
    refine ey_aload_n (cd_169 rfl) rfl ?_
    obtain ⟨v6, e7, e⟩ := jbind e
    refine ey_getf_i (cd_169 rfl) mt_169 rfl rfl rfl e7 ?_
    obtain ⟨a8, e9, e⟩ := jbind e
    refine ey_rs (s0 := [jI v6, jR r4]) (s1 := [jI v6, jR (some a8)]) (by rw [e9]) ?_
    obtain ⟨r10, e11, e⟩ := jbind e
    refine ey_aald (cd_169 rfl) (by decide) e11 ?_
    by_cases q12 : r10 = none
    · rw [if_pos q12] at e
      refine ey_rs (s0 := [jR r10]) (s1 := [jR none]) (by rw [q12]) ?_
      refine ey_ifnonnull_n (cd_169 rfl) rfl ?_
      refine ey_aload_n (cd_169 rfl) rfl ?_
      obtain ⟨r13, e14, e⟩ := jbind e
      refine ey_getf_r (cd_169 rfl) mt_169 rfl rfl rfl e14 ?_
      refine ey_aload_n (cd_169 rfl) rfl ?_
      obtain ⟨v15, e16, e⟩ := jbind e
      refine ey_getf_i (cd_169 rfl) mt_169 rfl rfl rfl e16 ?_
      obtain ⟨n17, e18, e⟩ := jbind e
      refine ey_new (cd_169 rfl) mt_169 rfl rfl jdf_3 e18 ?_
      refine ey_dup (cd_169 rfl) rfl ?_
      obtain ⟨h19, e20, e⟩ := jbind e
      refine ey_ci (s0 := [jR (some n17.1), jR (some n17.1), jI v15, jR r13]) (s1 := [jR (some n17.1), jI v15, jR r13]) (st' := [jR (some n17.1), jI v15, jR r13]) (cd_169 rfl) mt_169 mt_44 rfl (by decide) rfl rfl (jsml_s rfl) rfl (mm_Runs.up (d := 1) (by decide) (ok_44 e20)) ?_
      obtain ⟨a21, e22, e⟩ := jbind e
      refine ey_rs (s0 := [jR (some n17.1), jI v15, jR r13]) (s1 := [jR (some n17.1), jI v15, jR (some a21)]) (by rw [e22]) ?_
      obtain ⟨h23, e24, e⟩ := jbind e
      refine ey_aast (cd_169 rfl) (by decide) e24 ?_
      exact jk_169_b48 e (jlf (jla 0 [jR (some this)])) rfl
    · rw [if_neg q12] at e
      obtain ⟨w50, w50e⟩ := Option.ne_none_iff_exists'.mp q12
      refine ey_rs (s0 := [jR r10]) (s1 := [jR (some w50)]) (by rw [w50e]) ?_
      refine ey_ifnonnull_s (cd_169 rfl) rfl ?_
      exact jk_169_b48 e (jlf (jla 0 [jR (some this)])) rfl
  · rw [if_neg q3] at e
    refine ey_nlt (cd_169 rfl) rfl rfl (show jw 8 = 8 from by decide) q3 ?_
    obtain ⟨u51, e52, e⟩ := jbind e
    cases e
    exact ey_throw (st := []) (f := (1, 173, 348, 177, 1)) (cd_169 rfl) mt_169 rfl rfl rfl (j6_s e52) (jsml_s rfl)
theorem cd_170 {pc : Nat} {i : Instr × Nat} (h : mm_lk mm_c170 pc = some i) : mm_cd 170 pc = some i := h
theorem mt_170 : mm_MT 170 = (11, 10, some .int, 3, 0, []) := rfl
set_option maxRecDepth 100000 in
theorem jk_170_b12 {L : Nat} {xs : Nat → Int32} {this : Nat}  {h : jH} {o : ((Int ⊕ Nat) × jH)} (e : jd_170_b12 this  h = some o) : ∀ lv : jL, ey (mm_xt L xs) 3 170 12 lv [] h (jres_i o) := by
  intro lv 
  unfold jd_170_b12 at e
  obtain ⟨u2, e3, e⟩ := jbind e
  cases e
  exact ey_throw (st := []) (f := (2, 178, 355, 182, 1)) (cd_170 rfl) mt_170 rfl rfl rfl (j6_s e3) (jsml_s rfl)
set_option maxRecDepth 100000 in
theorem jk_170_s87 {L : Nat} {xs : Nat → Int32} {this : Nat} {x1 : Int} {x3 : Int} {x4 : Option Nat} {x5 : Option Nat} {x6 : Int} {x8 : Int} {x7 : Int} {x9 : Int} {h : jH} {o : ((Int × Int × jH) ⊕ (Int × jH))} {r : mm_R} (e : jd_170_s87 this x1 x3 x4 x5 x6 x8 x7 x9 h = some o) (K : jsm (fun s => (∀ lv : jL, lv 0 = some (jR (some this)) → lv 1 = some (jI x1) → lv 3 = some (jI x3) → lv 4 = some (jR x4) → lv 5 = some (jR x5) → lv 6 = some (jI x6) → lv 7 = some (jI s.1) → lv 8 = some (jI x8) → lv 9 = some (jI s.2.1) → ey (mm_xt L xs) 3 170 87 lv [] s.2.2 r)) (fun x => (∀ lv : jL, lv 0 = some (jR (some this)) → lv 1 = some (jI x1) → lv 3 = some (jI x3) → lv 4 = some (jR x4) → lv 5 = some (jR x5) → lv 6 = some (jI x6) → lv 7 = some (jI x.1) → lv 8 = some (jI x8) → ey (mm_xt L xs) 3 170 137 lv [] x.2 r)) o) : ∀ lv : jL, lv 0 = some (jR (some this)) → lv 1 = some (jI x1) → lv 3 = some (jI x3) → lv 4 = some (jR x4) → lv 5 = some (jR x5) → lv 6 = some (jI x6) → lv 7 = some (jI x7) → lv 8 = some (jI x8) → lv 9 = some (jI x9) → ey (mm_xt L xs) 3 170 87 lv [] h r := by
  intro lv f0 f1 f3 f4 f5 f6 f7 f8 f9
  unfold jd_170_s87 at e
  refine ey_iload (cd_170 rfl) f9 ?_
  refine ey_aload (cd_170 rfl) f5 ?_
  refine ey_iload (cd_170 rfl) f6 ?_
  obtain ⟨a43, e44, e⟩ := jbind e
  refine ey_rs (s0 := [jI x6, jR x5, jI x9]) (s1 := [jI x6, jR (some a43), jI x9]) (by rw [e44]) ?_
  obtain ⟨u45, e46, e⟩ := jbind e
  obtain ⟨v47, e48, e⟩ := jbind e
  refine ey_cv (s0 := [jI x6, jR (some a43), jI x9]) (s1 := [jI x9]) (st' := [jI v47, jI x9]) (cd_170 rfl) mt_170 mt_96 rfl rfl rfl (jck_s e46) rfl (jsml_s rfl) rfl (mm_Runs.up (d := 1) (by decide) (ok_96 e48)) ?_
  by_cases q49 : (jw v47) ≤ (jw x9)
  · rw [if_pos q49] at e
    refine ey_cge (cd_170 rfl) rfl rfl rfl q49 ?_
    cases e
    exact K lv f0 f1 f3 f4 f5 f6 f7 f8
  · rw [if_neg q49] at e
    refine ey_nge (cd_170 rfl) rfl rfl rfl q49 ?_
    refine ey_aload (cd_170 rfl) f5 ?_
    obtain ⟨a50, e51, e⟩ := jbind e
    refine ey_rs (s0 := [jR x5]) (s1 := [jR (some a50)]) (by rw [e51]) ?_
    obtain ⟨r52, e53, e⟩ := jbind e
    refine ey_getf_r (cd_170 rfl) mt_170 rfl rfl rfl e53 ?_
    refine ey_iload (cd_170 rfl) f7 ?_
    refine ey_iinc (cd_170 rfl) mt_170 rfl f7 ?_
    refine ey_aload_n (cd_170 rfl) f0 ?_
    obtain ⟨r54, e55, e⟩ := jbind e
    refine ey_getf_r (cd_170 rfl) mt_170 rfl rfl rfl e55 ?_
    refine ey_iload_n (cd_170 rfl) f1 ?_
    obtain ⟨a56, e57, e⟩ := jbind e
    refine ey_rs (s0 := [jI x1, jR r54, jI x7, jR r52]) (s1 := [jI x1, jR (some a56), jI x7, jR r52]) (by rw [e57]) ?_
    obtain ⟨r58, e59, e⟩ := jbind e
    refine ey_aald (cd_170 rfl) (by decide) e59 ?_
    refine ey_aload (cd_170 rfl) f4 ?_
    refine ey_iload (cd_170 rfl) (jup_pi (lv := lv) (j := 6) (v := jI (x7 + 1)) (z := x6) f6) ?_
    refine ey_iload (cd_170 rfl) f9 ?_
    refine ey_iload (cd_170 rfl) f8 ?_
    refine ey_iload_n (cd_170 rfl) f3 ?_
    obtain ⟨a60, e61, e⟩ := jbind e
    refine ey_rs (s0 := [jI x3, jI x8, jI x9, jI x6, jR x4, jR r58, jI x7, jR r52]) (s1 := [jI x3, jI x8, jI x9, jI x6, jR x4, jR (some a60), jI x7, jR r52]) (by rw [e61]) ?_
    obtain ⟨u62, e63, e⟩ := jbind e
    obtain ⟨q64, e65, e⟩ := jbind e
    refine ey_cv (s0 := [jI x3, jI x8, jI x9, jI x6, jR x4, jR (some a60), jI x7, jR r52]) (s1 := [jI x7, jR r52]) (st' := [jI q64.1, jI x7, jR r52]) (cd_170 rfl) mt_170 mt_56 rfl rfl rfl (jck_s e63) rfl (jsml_s rfl) rfl (ok_56 e65) ?_
    refine ey_cs (s0 := [jI q64.1, jI x7, jR r52]) (s1 := [jI x7, jR r52]) (st' := [jI (jd_183 q64.1), jI x7, jR r52]) (cd_170 rfl) mt_170 mt_183 rfl (by decide) rfl rfl (jsml_s rfl) rfl (mm_Runs.up (d := 1) (by decide) (ok_183 )) ?_
    obtain ⟨a66, e67, e⟩ := jbind e
    refine ey_rs (s0 := [jI (jd_183 q64.1), jI x7, jR r52]) (s1 := [jI (jd_183 q64.1), jI x7, jR (some a66)]) (by rw [e67]) ?_
    obtain ⟨h68, e69, e⟩ := jbind e
    refine ey_iast (cd_170 rfl) e69 ?_
    refine ey_iinc (cd_170 rfl) mt_170 rfl f9 ?_
    refine ey_goto (cd_170 rfl) rfl ?_
    cases e
    exact K (jup (jup lv 7 (jI (x7 + 1))) 9 (jI (x9 + 1))) f0 f1 f3 f4 f5 (jup_o rfl (jup_pi (lv := lv) (j := 6) (v := jI (x7 + 1)) (z := x6) f6)) rfl (jup_pi (lv := (jup lv 7 (jI (x7 + 1)))) (j := 8) (v := jI (x9 + 1)) (z := x8) f8) rfl
theorem jk_170_l87 {L : Nat} {xs : Nat → Int32} {this : Nat} {x1 : Int} {x3 : Int} {x4 : Option Nat} {x5 : Option Nat} {x6 : Int} {x8 : Int} {x7 : Int} {x9 : Int} {h : jH} {x : (Int × jH)} {r : mm_R} (e : jd_170_l87 this x1 x3 x4 x5 x6 x8 x7 x9 h = some x) (K : (∀ lv : jL, lv 0 = some (jR (some this)) → lv 1 = some (jI x1) → lv 3 = some (jI x3) → lv 4 = some (jR x4) → lv 5 = some (jR x5) → lv 6 = some (jI x6) → lv 7 = some (jI x.1) → lv 8 = some (jI x8) → ey (mm_xt L xs) 3 170 137 lv [] x.2 r)) : ∀ lv : jL, lv 0 = some (jR (some this)) → lv 1 = some (jI x1) → lv 3 = some (jI x3) → lv 4 = some (jR x4) → lv 5 = some (jR x5) → lv 6 = some (jI x6) → lv 7 = some (jI x7) → lv 8 = some (jI x8) → lv 9 = some (jI x9) → ey (mm_xt L xs) 3 170 87 lv [] h r := by
  unfold jd_170_l87 at e
  exact jlp_ok2 (P := fun s => ∀ lv : jL, lv 0 = some (jR (some this)) → lv 1 = some (jI x1) → lv 3 = some (jI x3) → lv 4 = some (jR x4) → lv 5 = some (jR x5) → lv 6 = some (jI x6) → lv 7 = some (jI s.1) → lv 8 = some (jI x8) → lv 9 = some (jI s.2.1) → ey (mm_xt L xs) 3 170 87 lv [] s.2.2 r) (Q := fun x => (∀ lv : jL, lv 0 = some (jR (some this)) → lv 1 = some (jI x1) → lv 3 = some (jI x3) → lv 4 = some (jR x4) → lv 5 = some (jR x5) → lv 6 = some (jI x6) → lv 7 = some (jI x.1) → lv 8 = some (jI x8) → ey (mm_xt L xs) 3 170 137 lv [] x.2 r)) (fun s q hq hk => jk_170_s87 hq hk) jfu _ x e K
set_option maxRecDepth 100000 in
theorem jk_170_s72 {L : Nat} {xs : Nat → Int32} {this : Nat} {x1 : Int} {x3 : Int} {x4 : Option Nat} {x5 : Option Nat} {x6 : Int} {x7 : Int} {x8 : Int} {h : jH} {o : ((Int × Int × jH) ⊕ jH)} {r : mm_R} (e : jd_170_s72 this x1 x3 x4 x5 x6 x7 x8 h = some o) (K : jsm (fun s => (∀ lv : jL, lv 0 = some (jR (some this)) → lv 1 = some (jI x1) → lv 3 = some (jI x3) → lv 4 = some (jR x4) → lv 5 = some (jR x5) → lv 6 = some (jI x6) → lv 7 = some (jI s.1) → lv 8 = some (jI s.2.1) → ey (mm_xt L xs) 3 170 72 lv [] s.2.2 r)) (fun x => (∀ lv : jL, lv 0 = some (jR (some this)) → lv 1 = some (jI x1) → lv 3 = some (jI x3) → lv 4 = some (jR x4) → lv 5 = some (jR x5) → lv 6 = some (jI x6) → ey (mm_xt L xs) 3 170 143 lv [] x r)) o) : ∀ lv : jL, lv 0 = some (jR (some this)) → lv 1 = some (jI x1) → lv 3 = some (jI x3) → lv 4 = some (jR x4) → lv 5 = some (jR x5) → lv 6 = some (jI x6) → lv 7 = some (jI x7) → lv 8 = some (jI x8) → ey (mm_xt L xs) 3 170 72 lv [] h r := by
  intro lv f0 f1 f3 f4 f5 f6 f7 f8
  unfold jd_170_s72 at e
  refine ey_iload (cd_170 rfl) f8 ?_
  refine ey_aload (cd_170 rfl) f5 ?_
  refine ey_iload (cd_170 rfl) f6 ?_
  obtain ⟨a36, e37, e⟩ := jbind e
  refine ey_rs (s0 := [jI x6, jR x5, jI x8]) (s1 := [jI x6, jR (some a36), jI x8]) (by rw [e37]) ?_
  obtain ⟨u38, e39, e⟩ := jbind e
  obtain ⟨v40, e41, e⟩ := jbind e
  refine ey_cv (s0 := [jI x6, jR (some a36), jI x8]) (s1 := [jI x8]) (st' := [jI v40, jI x8]) (cd_170 rfl) mt_170 mt_97 rfl rfl rfl (jck_s e39) rfl (jsml_s rfl) rfl (mm_Runs.up (d := 1) (by decide) (ok_97 e41)) ?_
  by_cases q42 : (jw v40) ≤ (jw x8)
  · rw [if_pos q42] at e
    refine ey_cge (cd_170 rfl) rfl rfl rfl q42 ?_
    cases e
    exact K lv f0 f1 f3 f4 f5 f6
  · rw [if_neg q42] at e
    refine ey_nge (cd_170 rfl) rfl rfl rfl q42 ?_
    refine ey_iconst (cd_170 rfl) ?_
    refine ey_istore (cd_170 rfl) mt_170 rfl ?_
    obtain ⟨x70, e71, e⟩ := jbind e
    refine jk_170_l87 e71 ?_ (jup lv 9 (jI 0)) f0 f1 f3 f4 f5 f6 f7 (jup_pi (lv := lv) (j := 8) (v := jI 0) (z := x8) f8) rfl
    intro lv g0 g1 g3 g4 g5 g6 g7 g8
    refine ey_iinc (cd_170 rfl) mt_170 rfl g8 ?_
    refine ey_goto (cd_170 rfl) rfl ?_
    cases e
    exact K (jup lv 8 (jI (x8 + 1))) g0 g1 g3 g4 g5 g6 (jup_pi (lv := lv) (j := 7) (v := jI (x8 + 1)) (z := x70.1) g7) rfl
theorem jk_170_l72 {L : Nat} {xs : Nat → Int32} {this : Nat} {x1 : Int} {x3 : Int} {x4 : Option Nat} {x5 : Option Nat} {x6 : Int} {x7 : Int} {x8 : Int} {h : jH} {x : jH} {r : mm_R} (e : jd_170_l72 this x1 x3 x4 x5 x6 x7 x8 h = some x) (K : (∀ lv : jL, lv 0 = some (jR (some this)) → lv 1 = some (jI x1) → lv 3 = some (jI x3) → lv 4 = some (jR x4) → lv 5 = some (jR x5) → lv 6 = some (jI x6) → ey (mm_xt L xs) 3 170 143 lv [] x r)) : ∀ lv : jL, lv 0 = some (jR (some this)) → lv 1 = some (jI x1) → lv 3 = some (jI x3) → lv 4 = some (jR x4) → lv 5 = some (jR x5) → lv 6 = some (jI x6) → lv 7 = some (jI x7) → lv 8 = some (jI x8) → ey (mm_xt L xs) 3 170 72 lv [] h r := by
  unfold jd_170_l72 at e
  exact jlp_ok2 (P := fun s => ∀ lv : jL, lv 0 = some (jR (some this)) → lv 1 = some (jI x1) → lv 3 = some (jI x3) → lv 4 = some (jR x4) → lv 5 = some (jR x5) → lv 6 = some (jI x6) → lv 7 = some (jI s.1) → lv 8 = some (jI s.2.1) → ey (mm_xt L xs) 3 170 72 lv [] s.2.2 r) (Q := fun x => (∀ lv : jL, lv 0 = some (jR (some this)) → lv 1 = some (jI x1) → lv 3 = some (jI x3) → lv 4 = some (jR x4) → lv 5 = some (jR x5) → lv 6 = some (jI x6) → ey (mm_xt L xs) 3 170 143 lv [] x r)) (fun s q hq hk => jk_170_s72 hq hk) jfu _ x e K
set_option maxRecDepth 100000 in
theorem jk_170_s54 {L : Nat} {xs : Nat → Int32} {this : Nat} {x1 : Int} {x3 : Int} {x4 : Option Nat} {x5 : Option Nat} {x6 : Int} {h : jH} {o : ((Int × jH) ⊕ jH)} {r : mm_R} (e : jd_170_s54 this x1 x3 x4 x5 x6 h = some o) (K : jsm (fun s => (∀ lv : jL, lv 0 = some (jR (some this)) → lv 1 = some (jI x1) → lv 3 = some (jI x3) → lv 4 = some (jR x4) → lv 5 = some (jR x5) → lv 6 = some (jI s.1) → ey (mm_xt L xs) 3 170 54 lv [] s.2 r)) (fun x => (∀ lv : jL, lv 0 = some (jR (some this)) → ey (mm_xt L xs) 3 170 149 lv [] x r)) o) : ∀ lv : jL, lv 0 = some (jR (some this)) → lv 1 = some (jI x1) → lv 3 = some (jI x3) → lv 4 = some (jR x4) → lv 5 = some (jR x5) → lv 6 = some (jI x6) → ey (mm_xt L xs) 3 170 54 lv [] h r := by
  intro lv f0 f1 f3 f4 f5 f6
  unfold jd_170_s54 at e
  refine ey_iload (cd_170 rfl) f6 ?_
  refine ey_iconst (cd_170 rfl) ?_
  by_cases q29 : 3 ≤ (jw x6)
  · rw [if_pos q29] at e
    refine ey_cge (cd_170 rfl) rfl rfl (show jw 3 = 3 from by decide) q29 ?_
    cases e
    exact K lv f0
  · rw [if_neg q29] at e
    refine ey_nge (cd_170 rfl) rfl rfl (show jw 3 = 3 from by decide) q29 ?_
    refine ey_aload (cd_170 rfl) f5 ?_
    refine ey_iload (cd_170 rfl) f6 ?_
    obtain ⟨a30, e31, e⟩ := jbind e
    refine ey_rs (s0 := [jI x6, jR x5]) (s1 := [jI x6, jR (some a30)]) (by rw [e31]) ?_
    obtain ⟨u32, e33, e⟩ := jbind e
    obtain ⟨v34, e35, e⟩ := jbind e
    refine ey_cv (s0 := [jI x6, jR (some a30)]) (s1 := []) (st' := [jI v34]) (cd_170 rfl) mt_170 mt_98 rfl rfl rfl (jck_s e33) rfl (jsml_s rfl) rfl (mm_Runs.up (d := 1) (by decide) (ok_98 e35)) ?_
    refine ey_istore (cd_170 rfl) mt_170 rfl ?_
    refine ey_iconst (cd_170 rfl) ?_
    refine ey_istore (cd_170 rfl) mt_170 rfl ?_
    obtain ⟨x72, e73, e⟩ := jbind e
    refine jk_170_l72 e73 ?_ (jup (jup lv 7 (jI v34)) 8 (jI 0)) f0 f1 f3 f4 f5 (jup_o rfl (jup_pi (lv := lv) (j := 6) (v := jI v34) (z := x6) f6)) (jup_pi (lv := (jup lv 7 (jI v34))) (j := 7) (v := jI 0) (z := v34) rfl) rfl
    intro lv g0 g1 g3 g4 g5 g6
    refine ey_iinc (cd_170 rfl) mt_170 rfl g6 ?_
    refine ey_goto (cd_170 rfl) rfl ?_
    cases e
    exact K (jup lv 6 (jI (x6 + 1))) g0 g1 g3 g4 (jup_pr (lv := lv) (j := 5) (v := jI (x6 + 1)) (z := x5) g5) rfl
theorem jk_170_l54 {L : Nat} {xs : Nat → Int32} {this : Nat} {x1 : Int} {x3 : Int} {x4 : Option Nat} {x5 : Option Nat} {x6 : Int} {h : jH} {x : jH} {r : mm_R} (e : jd_170_l54 this x1 x3 x4 x5 x6 h = some x) (K : (∀ lv : jL, lv 0 = some (jR (some this)) → ey (mm_xt L xs) 3 170 149 lv [] x r)) : ∀ lv : jL, lv 0 = some (jR (some this)) → lv 1 = some (jI x1) → lv 3 = some (jI x3) → lv 4 = some (jR x4) → lv 5 = some (jR x5) → lv 6 = some (jI x6) → ey (mm_xt L xs) 3 170 54 lv [] h r := by
  unfold jd_170_l54 at e
  exact jlp_ok2 (P := fun s => ∀ lv : jL, lv 0 = some (jR (some this)) → lv 1 = some (jI x1) → lv 3 = some (jI x3) → lv 4 = some (jR x4) → lv 5 = some (jR x5) → lv 6 = some (jI s.1) → ey (mm_xt L xs) 3 170 54 lv [] s.2 r) (Q := fun x => (∀ lv : jL, lv 0 = some (jR (some this)) → ey (mm_xt L xs) 3 170 149 lv [] x r)) (fun s q hq hk => jk_170_s54 hq hk) jfu _ x e K
set_option maxRecDepth 100000 in
theorem ok_170 {L : Nat} {xs : Nat → Int32} {this : Nat} {p0 : Int} {p1 : Int} {p2 : Int} {h : jH} {o : ((Int ⊕ Nat) × jH)} (e : jd_170 this p0 p1 p2 h = some o) : mm_Runs (mm_xt L xs) 4 170 ([jR (some this), jI p0, jI p1, jI p2].map jcv) (jaH h) (jres_i o) := by
  refine ey_run0 _ mt_170 (jsl_s rfl) ?_
  unfold jd_170 at e
  refine ey_iload_n (cd_170 rfl) rfl ?_
  by_cases q1 : (jw p0) < 0
  · rw [if_pos q1] at e
    refine ey_zlt (cd_170 rfl) rfl rfl q1 ?_
    exact jk_170_b12 e (jlf (jla 0 [jR (some this), jI p0, jI p1, jI p2])) 
  · rw [if_neg q1] at e
    refine ey_ylt (cd_170 rfl) rfl rfl q1 ?_
    refine ey_iload_n (cd_170 rfl) rfl ?_
    refine ey_aload_n (cd_170 rfl) rfl ?_
    obtain ⟨v4, e5, e⟩ := jbind e
    refine ey_getf_i (cd_170 rfl) mt_170 rfl rfl rfl e5 ?_
    by_cases q6 : (jw p0) < (jw v4)
    · rw [if_pos q6] at e
      refine ey_clt (cd_170 rfl) rfl rfl rfl q6 ?_
      refine ey_aload_n (cd_170 rfl) rfl ?_
      refine ey_iload_n (cd_170 rfl) rfl ?_
      obtain ⟨u7, e8, e⟩ := jbind e
      rcases jtb_c e with ⟨v11, h13, e10, e⟩ | ⟨E12, h13, e10, e⟩
      rotate_left
      · cases e
        exact ey_cvX (s0 := [jI p1, jR (some this)]) (s1 := []) (cd_170 rfl) mt_170 rfl mt_193 rfl rfl rfl (jck_s e8) rfl (jsml_s rfl) (mm_Runs.up (d := 1) (by decide) (ok_193 e10))
      refine ey_cv (s0 := [jI p1, jR (some this)]) (s1 := []) (st' := [jR (some v11)]) (cd_170 rfl) mt_170 mt_193 rfl rfl rfl (jck_s e8) rfl (jsml_s rfl) rfl (mm_Runs.up (d := 1) (by decide) (ok_193 e10)) ?_
      refine ey_astore (cd_170 rfl) mt_170 rfl ?_
      refine ey_aload_n (cd_170 rfl) rfl ?_
      obtain ⟨u14, e15, e⟩ := jbind e
      rcases jtb_c e with ⟨v18, h20, e17, e⟩ | ⟨E19, h20, e17, e⟩
      rotate_left
      · cases e
        exact ey_cvX (s0 := [jR (some this)]) (s1 := []) (cd_170 rfl) mt_170 rfl mt_194 rfl rfl rfl (jck_s e15) rfl (jsml_s rfl) (mm_Runs.up (d := 2) (by decide) (ok_194 e17))
      refine ey_cv (s0 := [jR (some this)]) (s1 := []) (st' := [jR (some v18)]) (cd_170 rfl) mt_170 mt_194 rfl rfl rfl (jck_s e15) rfl (jsml_s rfl) rfl (mm_Runs.up (d := 2) (by decide) (ok_194 e17)) ?_
      refine ey_astore (cd_170 rfl) mt_170 rfl ?_
      refine ey_aload (cd_170 rfl) rfl ?_
      refine ey_aload (cd_170 rfl) (jup_pr (lv := (jup (jlf (jla 0 [jR (some this), jI p0, jI p1, jI p2])) 4 (jR (some v11)))) (j := 4) (v := jR (some v18)) (z := (some v11)) rfl) ?_
      obtain ⟨v21, e22, e⟩ := jbind e
      refine ey_getf_i (cd_170 rfl) mt_170 rfl rfl rfl e22 ?_
      refine ey_aload (cd_170 rfl) (jup_pr (lv := (jup (jlf (jla 0 [jR (some this), jI p0, jI p1, jI p2])) 4 (jR (some v11)))) (j := 4) (v := jR (some v18)) (z := (some v11)) rfl) ?_
      obtain ⟨v23, e24, e⟩ := jbind e
      refine ey_getf_i (cd_170 rfl) mt_170 rfl rfl rfl e24 ?_
      obtain ⟨u25, e26, e⟩ := jbind e
      obtain ⟨h27, e28, e⟩ := jbind e
      refine ey_cv (s0 := [jI v23, jI v21, jR (some v18)]) (s1 := []) (st' := []) (cd_170 rfl) mt_170 mt_95 rfl rfl rfl (jck_s e26) rfl (jsml_s rfl) rfl (mm_Runs.up (d := 1) (by decide) (ok_95 e28)) ?_
      refine ey_iconst (cd_170 rfl) ?_
      refine ey_istore (cd_170 rfl) mt_170 rfl ?_
      obtain ⟨x74, e75, e⟩ := jbind e
      refine jk_170_l54 e75 ?_ (jup (jup (jup (jlf (jla 0 [jR (some this), jI p0, jI p1, jI p2])) 4 (jR (some v11))) 5 (jR (some v18))) 6 (jI 0)) rfl rfl (jup_o rfl (jup_o rfl (jup_pi (lv := (jlf (jla 0 [jR (some this), jI p0, jI p1, jI p2]))) (j := 3) (v := jR (some v11)) (z := p2) rfl))) (jup_o rfl (jup_pr (lv := (jup (jlf (jla 0 [jR (some this), jI p0, jI p1, jI p2])) 4 (jR (some v11)))) (j := 4) (v := jR (some v18)) (z := (some v11)) rfl)) (jup_pr (lv := (jup (jup (jlf (jla 0 [jR (some this), jI p0, jI p1, jI p2])) 4 (jR (some v11))) 5 (jR (some v18)))) (j := 5) (v := jI 0) (z := (some v18)) rfl) rfl
      intro lv g0
      refine ey_aload_n (cd_170 rfl) g0 ?_
      refine ey_dup (cd_170 rfl) rfl ?_
      obtain ⟨v76, e77, e⟩ := jbind e
      refine ey_getf_i (cd_170 rfl) mt_170 rfl rfl rfl e77 ?_
      refine ey_dupx1 (cd_170 rfl) rfl rfl ?_
      refine ey_iconst (cd_170 rfl) ?_
      refine ey_iadd (cd_170 rfl) ?_
      obtain ⟨h78, e79, e⟩ := jbind e
      refine ey_putf_i (cd_170 rfl) mt_170 rfl rfl rfl e79 ?_
      cases e
      exact ey_reti (cd_170 rfl) mt_170 rfl
    · rw [if_neg q6] at e
      refine ey_nlt (cd_170 rfl) rfl rfl rfl q6 ?_
      exact jk_170_b12 e (jlf (jla 0 [jR (some this), jI p0, jI p1, jI p2])) 
theorem cd_171 {pc : Nat} {i : Instr × Nat} (h : mm_lk mm_c171 pc = some i) : mm_cd 171 pc = some i := h
theorem mt_171 : mm_MT 171 = (11, 6, some .int, 3, 0, []) := rfl
set_option maxRecDepth 100000 in
theorem ok_171 {L : Nat} {xs : Nat → Int32} {this : Nat} {p0 : Int} {p1 : Int} {p2 : Int} {h : jH} {o : ((Int ⊕ Nat) × jH)} (e : jd_171 this p0 p1 p2 h = some o) : mm_Runs (mm_xt L xs) 3 171 ([jR (some this), jI p0, jI p1, jI p2].map jcv) (jaH h) (jres_i o) := by
  refine ey_run0 _ mt_171 (jsl_s rfl) ?_
  unfold jd_171 at e
  refine ey_aload_n (cd_171 rfl) rfl ?_
  refine ey_iload_n (cd_171 rfl) rfl ?_
  obtain ⟨u1, e2, e⟩ := jbind e
  rcases jtb_c e with ⟨v5, h7, e4, e⟩ | ⟨E6, h7, e4, e⟩
  rotate_left
  · cases e
    exact ey_cvX (s0 := [jI p0, jR (some this)]) (s1 := []) (cd_171 rfl) mt_171 rfl mt_193 rfl rfl rfl (jck_s e2) rfl (jsml_s rfl) (mm_Runs.up (d := 1) (by decide) (ok_193 e4))
  refine ey_cv (s0 := [jI p0, jR (some this)]) (s1 := []) (st' := [jR (some v5)]) (cd_171 rfl) mt_171 mt_193 rfl rfl rfl (jck_s e2) rfl (jsml_s rfl) rfl (mm_Runs.up (d := 1) (by decide) (ok_193 e4)) ?_
  refine ey_astore (cd_171 rfl) mt_171 rfl ?_
  refine ey_aload_n (cd_171 rfl) rfl ?_
  refine ey_iload_n (cd_171 rfl) rfl ?_
  obtain ⟨u8, e9, e⟩ := jbind e
  rcases jtb_c e with ⟨v12, h14, e11, e⟩ | ⟨E13, h14, e11, e⟩
  rotate_left
  · cases e
    exact ey_cvX (s0 := [jI p1, jR (some this)]) (s1 := []) (cd_171 rfl) mt_171 rfl mt_193 rfl rfl rfl (jck_s e9) rfl (jsml_s rfl) (mm_Runs.up (d := 1) (by decide) (ok_193 e11))
  refine ey_cv (s0 := [jI p1, jR (some this)]) (s1 := []) (st' := [jR (some v12)]) (cd_171 rfl) mt_171 mt_193 rfl rfl rfl (jck_s e9) rfl (jsml_s rfl) rfl (mm_Runs.up (d := 1) (by decide) (ok_193 e11)) ?_
  refine ey_astore (cd_171 rfl) mt_171 rfl ?_
  refine ey_aload (cd_171 rfl) (jup_pr (lv := (jup (jlf (jla 0 [jR (some this), jI p0, jI p1, jI p2])) 4 (jR (some v5)))) (j := 4) (v := jR (some v12)) (z := (some v5)) rfl) ?_
  refine ey_aload (cd_171 rfl) rfl ?_
  obtain ⟨u15, e16, e⟩ := jbind e
  obtain ⟨v17, e18, e⟩ := jbind e
  refine ey_cv (s0 := [jR (some v12), jR (some v5)]) (s1 := []) (st' := [jI v17]) (cd_171 rfl) mt_171 mt_100 rfl rfl rfl (jck_s e16) rfl (jsml_s rfl) rfl (mm_Runs.up (d := 1) (by decide) (ok_100 e18)) ?_
  by_cases q19 : (jw v17) = 0
  · rw [if_pos q19] at e
    refine ey_yne (cd_171 rfl) rfl rfl (fun w => w q19) ?_
    obtain ⟨u20, e21, e⟩ := jbind e
    cases e
    exact ey_throw (st := []) (f := (0, 85, 361, 89, 1)) (cd_171 rfl) mt_171 rfl rfl rfl (j6_s e21) (jsml_s rfl)
  · rw [if_neg q19] at e
    refine ey_zne (cd_171 rfl) rfl rfl q19 ?_
    refine ey_iload_n (cd_171 rfl) (jup_o rfl (jup_pi (lv := (jlf (jla 0 [jR (some this), jI p0, jI p1, jI p2]))) (j := 3) (v := jR (some v5)) (z := p2) rfl)) ?_
    refine ey_iconst (cd_171 rfl) ?_
    rcases jtb_c e with ⟨v24, h26, e23, e⟩ | ⟨E25, h26, e23, e⟩
    rotate_left
    · cases e
      exact ey_csX (s0 := [jI 3, jI p2]) (s1 := []) (cd_171 rfl) mt_171 rfl mt_185 rfl rfl rfl (jsml_s rfl) (mm_Runs.up (d := 1) (by decide) (ok_185 e23))
    refine ey_cs (s0 := [jI 3, jI p2]) (s1 := []) (st' := []) (cd_171 rfl) mt_171 mt_185 rfl (by decide) rfl rfl (jsml_s rfl) rfl (mm_Runs.up (d := 1) (by decide) (ok_185 e23)) ?_
    refine ey_aload (cd_171 rfl) (jup_pr (lv := (jup (jlf (jla 0 [jR (some this), jI p0, jI p1, jI p2])) 4 (jR (some v5)))) (j := 4) (v := jR (some v12)) (z := (some v5)) rfl) ?_
    refine ey_aload (cd_171 rfl) rfl ?_
    refine ey_iload_n (cd_171 rfl) (jup_o rfl (jup_pi (lv := (jlf (jla 0 [jR (some this), jI p0, jI p1, jI p2]))) (j := 3) (v := jR (some v5)) (z := p2) rfl)) ?_
    obtain ⟨u27, e28, e⟩ := jbind e
    obtain ⟨v29, e30, e⟩ := jbind e
    refine ey_cv (s0 := [jI p2, jR (some v12), jR (some v5)]) (s1 := []) (st' := [jI v29]) (cd_171 rfl) mt_171 mt_105 rfl rfl rfl (jck_s e28) rfl (jsml_s rfl) rfl (ok_105 e30) ?_
    cases e
    exact ey_reti (cd_171 rfl) mt_171 rfl
theorem cd_172 {pc : Nat} {i : Instr × Nat} (h : mm_lk mm_c172 pc = some i) : mm_cd 172 pc = some i := h
theorem mt_172 : mm_MT 172 = (11, 5, some .boolean, 2, 0, []) := rfl
set_option maxRecDepth 100000 in
theorem jk_172_b37 {L : Nat} {xs : Nat → Int32} {this : Nat} {y0 : Int} {h : jH} {o : ((Int ⊕ Nat) × jH)} (e : jd_172_b37 this y0 h = some o) : ∀ lv : jL, ey (mm_xt L xs) 2 172 37 lv [jI y0] h (jres_i o) := by
  intro lv 
  unfold jd_172_b37 at e
  obtain ⟨u14, e15, e⟩ := jbind e
  cases e
  exact ey_retz (cd_172 rfl) mt_172 rfl (jbc_s e15)
set_option maxRecDepth 100000 in
theorem ok_172 {L : Nat} {xs : Nat → Int32} {this : Nat} {p0 : Int} {p1 : Int} {h : jH} {o : ((Int ⊕ Nat) × jH)} (e : jd_172 this p0 p1 h = some o) : mm_Runs (mm_xt L xs) 3 172 ([jR (some this), jI p0, jI p1].map jcv) (jaH h) (jres_i o) := by
  refine ey_run0 _ mt_172 (jsl_s rfl) ?_
  unfold jd_172 at e
  refine ey_aload_n (cd_172 rfl) rfl ?_
  refine ey_iload_n (cd_172 rfl) rfl ?_
  obtain ⟨u1, e2, e⟩ := jbind e
  rcases jtb_c e with ⟨v5, h7, e4, e⟩ | ⟨E6, h7, e4, e⟩
  rotate_left
  · cases e
    exact ey_cvX (s0 := [jI p0, jR (some this)]) (s1 := []) (cd_172 rfl) mt_172 rfl mt_195 rfl rfl rfl (jck_s e2) rfl (jsml_s rfl) (mm_Runs.up (d := 1) (by decide) (ok_195 e4))
  refine ey_cv (s0 := [jI p0, jR (some this)]) (s1 := []) (st' := [jR (some v5)]) (cd_172 rfl) mt_172 mt_195 rfl rfl rfl (jck_s e2) rfl (jsml_s rfl) rfl (mm_Runs.up (d := 1) (by decide) (ok_195 e4)) ?_
  refine ey_astore_n (cd_172 rfl) mt_172 rfl ?_
  refine ey_aload_n (cd_172 rfl) rfl ?_
  refine ey_iload_n (cd_172 rfl) (jup_pi (lv := (jlf (jla 0 [jR (some this), jI p0, jI p1]))) (j := 2) (v := jR (some v5)) (z := p1) rfl) ?_
  rcases jtb_c e with ⟨v10, h12, e9, e⟩ | ⟨E11, h12, e9, e⟩
  rotate_left
  · cases e
    exact ey_csX (s0 := [jI p1, jR (some v5)]) (s1 := []) (cd_172 rfl) mt_172 rfl mt_192 rfl rfl rfl (jsml_s rfl) (ok_192 e9)
  refine ey_cs (s0 := [jI p1, jR (some v5)]) (s1 := []) (st' := [jR (some v10)]) (cd_172 rfl) mt_172 mt_192 rfl (by decide) rfl rfl (jsml_s rfl) rfl (ok_192 e9) ?_
  refine ey_astore (cd_172 rfl) mt_172 rfl ?_
  refine ey_iload_n (cd_172 rfl) (jup_o rfl (jup_pi (lv := (jlf (jla 0 [jR (some this), jI p0, jI p1]))) (j := 2) (v := jR (some v5)) (z := p1) rfl)) ?_
  by_cases q13 : (jw p1) = 0
  · rw [if_pos q13] at e
    refine ey_zeq (cd_172 rfl) rfl rfl q13 ?_
    refine ey_iconst (cd_172 rfl) ?_
    refine ey_goto (cd_172 rfl) rfl ?_
    exact jk_172_b37 e (jup (jup (jlf (jla 0 [jR (some this), jI p0, jI p1])) 3 (jR (some v5))) 4 (jR (some v10))) 
  · rw [if_neg q13] at e
    refine ey_yeq (cd_172 rfl) rfl rfl q13 ?_
    refine ey_aload (cd_172 rfl) rfl ?_
    refine ey_aload_n (cd_172 rfl) (jup_pr (lv := (jup (jlf (jla 0 [jR (some this), jI p0, jI p1])) 3 (jR (some v5)))) (j := 3) (v := jR (some v10)) (z := (some v5)) rfl) ?_
    refine ey_iload_n (cd_172 rfl) (jup_o rfl (jup_pi (lv := (jlf (jla 0 [jR (some this), jI p0, jI p1]))) (j := 2) (v := jR (some v5)) (z := p1) rfl)) ?_
    refine ey_iconst (cd_172 rfl) ?_
    refine ey_isub (cd_172 rfl) ?_
    rcases jtb_c e with ⟨v18, h20, e17, e⟩ | ⟨E19, h20, e17, e⟩
    rotate_left
    · cases e
      exact ey_csX (s0 := [jI (p1 - 1), jR (some v5), jR (some v10)]) (s1 := [jR (some v10)]) (cd_172 rfl) mt_172 rfl mt_192 rfl rfl rfl (jsml_s rfl) (ok_192 e17)
    refine ey_cs (s0 := [jI (p1 - 1), jR (some v5), jR (some v10)]) (s1 := [jR (some v10)]) (st' := [jR (some v18), jR (some v10)]) (cd_172 rfl) mt_172 mt_192 rfl (by decide) rfl rfl (jsml_s rfl) rfl (ok_192 e17) ?_
    obtain ⟨u21, e22, e⟩ := jbind e
    obtain ⟨q23, e24, e⟩ := jbind e
    refine ey_cv (s0 := [jR (some v18), jR (some v10)]) (s1 := []) (st' := [jI q23.1]) (cd_172 rfl) mt_172 mt_106 rfl rfl rfl (jck_s e22) rfl (jsml_s rfl) rfl (mm_Runs.up (d := 1) (by decide) (ok_106 e24)) ?_
    have K25 : ∀ lv : jL, ey (mm_xt L xs) 2 172 37 lv [jI (if (jw q23.1) = 0 then 0 else 1)] q23.2 (jres_i o) := by
      intro lv 
      exact jk_172_b37 e lv 
    by_cases q26 : (jw q23.1) = 0
    · refine ey_zeq (cd_172 rfl) rfl rfl q26 ?_
      refine ey_iconst (cd_172 rfl) ?_
      exact ey_rs (s0 := [jI 0]) (s1 := [jI (if (jw q23.1) = 0 then 0 else 1)]) (by rw [show ((if (jw q23.1) = 0 then 0 else 1) : Int) = 0 from (if_pos q26)]) (K25 (jup (jup (jlf (jla 0 [jR (some this), jI p0, jI p1])) 3 (jR (some v5))) 4 (jR (some v10))) )
    · refine ey_yeq (cd_172 rfl) rfl rfl q26 ?_
      refine ey_iconst (cd_172 rfl) ?_
      refine ey_goto (cd_172 rfl) rfl ?_
      exact ey_rs (s0 := [jI 1]) (s1 := [jI (if (jw q23.1) = 0 then 0 else 1)]) (by rw [show ((if (jw q23.1) = 0 then 0 else 1) : Int) = 1 from (if_neg q26)]) (K25 (jup (jup (jlf (jla 0 [jR (some this), jI p0, jI p1])) 3 (jR (some v5))) 4 (jR (some v10))) )
theorem cd_173 {pc : Nat} {i : Instr × Nat} (h : mm_lk mm_c173 pc = some i) : mm_cd 173 pc = some i := h
theorem mt_173 : mm_MT 173 = (11, 6, some .int, 2, 0, []) := rfl
set_option maxRecDepth 100000 in
theorem jk_173_s16 {L : Nat} {xs : Nat → Int32} {this : Nat} {x2 : Int} {x3 : Option Nat} {x4 : Option Nat} {x5 : Int} {h : jH} {o : ((Int × jH) ⊕ ((Int × jH) ⊕ jH))} {r : mm_R} (e : jd_173_s16 this x2 x3 x4 x5 h = some o) (K : jsm (fun s => (∀ lv : jL, lv 2 = some (jI x2) → lv 3 = some (jR x3) → lv 4 = some (jR x4) → lv 5 = some (jI s.1) → ey (mm_xt L xs) 2 173 16 lv [] s.2 r)) (fun x => (jsm (fun y => (∀ lv : jL, lv 5 = some (jI y.1) → ey (mm_xt L xs) 2 173 37 lv [] y.2 r)) (fun z => (∀ lv : jL, ey (mm_xt L xs) 2 173 46 lv [] z r)) x)) o) : ∀ lv : jL, lv 2 = some (jI x2) → lv 3 = some (jR x3) → lv 4 = some (jR x4) → lv 5 = some (jI x5) → ey (mm_xt L xs) 2 173 16 lv [] h r := by
  intro lv f2 f3 f4 f5
  unfold jd_173_s16 at e
  refine ey_iload (cd_173 rfl) f5 ?_
  refine ey_iload_n (cd_173 rfl) f2 ?_
  by_cases q13 : (jw x2) ≤ (jw x5)
  · rw [if_pos q13] at e
    refine ey_cge (cd_173 rfl) rfl rfl rfl q13 ?_
    cases e
    exact K lv 
  · rw [if_neg q13] at e
    refine ey_nge (cd_173 rfl) rfl rfl rfl q13 ?_
    refine ey_aload (cd_173 rfl) f4 ?_
    refine ey_aload_n (cd_173 rfl) f3 ?_
    refine ey_iload (cd_173 rfl) f5 ?_
    obtain ⟨v16, h18, e15, e⟩ := jtn_c e
    refine ey_cs (s0 := [jI x5, jR x3, jR x4]) (s1 := [jR x4]) (st' := [jR (some v16), jR x4]) (cd_173 rfl) mt_173 mt_192 rfl (by decide) rfl rfl (jsml_s rfl) rfl (ok_192 e15) ?_
    refine ey_iconst (cd_173 rfl) ?_
    obtain ⟨a19, e20, e⟩ := jbind e
    refine ey_rs (s0 := [jI 2, jR (some v16), jR x4]) (s1 := [jI 2, jR (some v16), jR (some a19)]) (by rw [e20]) ?_
    obtain ⟨u21, e22, e⟩ := jbind e
    obtain ⟨v23, e24, e⟩ := jbind e
    refine ey_cv (s0 := [jI 2, jR (some v16), jR (some a19)]) (s1 := []) (st' := [jI v23]) (cd_173 rfl) mt_173 mt_105 rfl rfl rfl (jck_s e22) rfl (jsml_s rfl) rfl (ok_105 e24) ?_
    by_cases q25 : (jw v23) = 0
    · rw [if_pos q25] at e
      refine ey_yne (cd_173 rfl) rfl rfl (fun w => w q25) ?_
      cases e
      exact K lv f5
    · rw [if_neg q25] at e
      refine ey_zne (cd_173 rfl) rfl rfl q25 ?_
      refine ey_iinc (cd_173 rfl) mt_173 rfl f5 ?_
      refine ey_goto (cd_173 rfl) rfl ?_
      cases e
      exact K (jup lv 5 (jI (x5 + 1))) f2 f3 (jup_pr (lv := lv) (j := 4) (v := jI (x5 + 1)) (z := x4) f4) rfl
theorem jk_173_l16 {L : Nat} {xs : Nat → Int32} {this : Nat} {x2 : Int} {x3 : Option Nat} {x4 : Option Nat} {x5 : Int} {h : jH} {x : ((Int × jH) ⊕ jH)} {r : mm_R} (e : jd_173_l16 this x2 x3 x4 x5 h = some x) (K : (jsm (fun y => (∀ lv : jL, lv 5 = some (jI y.1) → ey (mm_xt L xs) 2 173 37 lv [] y.2 r)) (fun z => (∀ lv : jL, ey (mm_xt L xs) 2 173 46 lv [] z r)) x)) : ∀ lv : jL, lv 2 = some (jI x2) → lv 3 = some (jR x3) → lv 4 = some (jR x4) → lv 5 = some (jI x5) → ey (mm_xt L xs) 2 173 16 lv [] h r := by
  unfold jd_173_l16 at e
  exact jlp_ok2 (P := fun s => ∀ lv : jL, lv 2 = some (jI x2) → lv 3 = some (jR x3) → lv 4 = some (jR x4) → lv 5 = some (jI s.1) → ey (mm_xt L xs) 2 173 16 lv [] s.2 r) (Q := fun x => (jsm (fun y => (∀ lv : jL, lv 5 = some (jI y.1) → ey (mm_xt L xs) 2 173 37 lv [] y.2 r)) (fun z => (∀ lv : jL, ey (mm_xt L xs) 2 173 46 lv [] z r)) x)) (fun s q hq hk => jk_173_s16 hq hk) jfu _ x e K
set_option maxRecDepth 100000 in
theorem ok_173 {L : Nat} {xs : Nat → Int32} {this : Nat} {p0 : Int} {p1 : Int} {h : jH} {o : ((Int ⊕ Nat) × jH)} (e : jd_173 this p0 p1 h = some o) : mm_Runs (mm_xt L xs) 3 173 ([jR (some this), jI p0, jI p1].map jcv) (jaH h) (jres_i o) := by
  refine ey_run0 _ mt_173 (jsl_s rfl) ?_
  unfold jd_173 at e
  refine ey_aload_n (cd_173 rfl) rfl ?_
  refine ey_iload_n (cd_173 rfl) rfl ?_
  obtain ⟨u1, e2, e⟩ := jbind e
  rcases jtb_c e with ⟨v5, h7, e4, e⟩ | ⟨E6, h7, e4, e⟩
  rotate_left
  · cases e
    exact ey_cvX (s0 := [jI p0, jR (some this)]) (s1 := []) (cd_173 rfl) mt_173 rfl mt_195 rfl rfl rfl (jck_s e2) rfl (jsml_s rfl) (mm_Runs.up (d := 1) (by decide) (ok_195 e4))
  refine ey_cv (s0 := [jI p0, jR (some this)]) (s1 := []) (st' := [jR (some v5)]) (cd_173 rfl) mt_173 mt_195 rfl rfl rfl (jck_s e2) rfl (jsml_s rfl) rfl (mm_Runs.up (d := 1) (by decide) (ok_195 e4)) ?_
  refine ey_astore_n (cd_173 rfl) mt_173 rfl ?_
  refine ey_aload_n (cd_173 rfl) rfl ?_
  refine ey_iload_n (cd_173 rfl) (jup_pi (lv := (jlf (jla 0 [jR (some this), jI p0, jI p1]))) (j := 2) (v := jR (some v5)) (z := p1) rfl) ?_
  rcases jtb_c e with ⟨v10, h12, e9, e⟩ | ⟨E11, h12, e9, e⟩
  rotate_left
  · cases e
    exact ey_csX (s0 := [jI p1, jR (some v5)]) (s1 := []) (cd_173 rfl) mt_173 rfl mt_192 rfl rfl rfl (jsml_s rfl) (ok_192 e9)
  refine ey_cs (s0 := [jI p1, jR (some v5)]) (s1 := []) (st' := [jR (some v10)]) (cd_173 rfl) mt_173 mt_192 rfl (by decide) rfl rfl (jsml_s rfl) rfl (ok_192 e9) ?_
  refine ey_astore (cd_173 rfl) mt_173 rfl ?_
  refine ey_iconst (cd_173 rfl) ?_
  refine ey_istore (cd_173 rfl) mt_173 rfl ?_
  obtain ⟨x26, e27, e⟩ := jbind e
  refine jk_173_l16 e27 ?_ (jup (jup (jup (jlf (jla 0 [jR (some this), jI p0, jI p1])) 3 (jR (some v5))) 4 (jR (some v10))) 5 (jI 0)) (jup_o rfl (jup_o rfl (jup_pi (lv := (jlf (jla 0 [jR (some this), jI p0, jI p1]))) (j := 2) (v := jR (some v5)) (z := p1) rfl))) (jup_o rfl (jup_pr (lv := (jup (jlf (jla 0 [jR (some this), jI p0, jI p1])) 3 (jR (some v5)))) (j := 3) (v := jR (some v10)) (z := (some v5)) rfl)) (jup_pr (lv := (jup (jup (jlf (jla 0 [jR (some this), jI p0, jI p1])) 3 (jR (some v5))) 4 (jR (some v10)))) (j := 4) (v := jI 0) (z := (some v10)) rfl) rfl
  cases x26 with
  | inl y28 =>
    replace e : (some (.inl y28.1, y28.2) : Option ((Int ⊕ Nat) × jH)) = some o := e
    intro lv g5
    refine ey_iload (cd_173 rfl) g5 ?_
    cases e
    exact ey_reti (cd_173 rfl) mt_173 rfl
  | inr y29 =>
    replace e : (some (.inl (-1), y29) : Option ((Int ⊕ Nat) × jH)) = some o := e
    intro lv 
    refine ey_iconst (cd_173 rfl) ?_
    cases e
    exact ey_reti (cd_173 rfl) mt_173 rfl
theorem cd_174 {pc : Nat} {i : Instr × Nat} (h : mm_lk mm_c174 pc = some i) : mm_cd 174 pc = some i := h
theorem mt_174 : mm_MT 174 = (11, 7, some .int, 4, 0, []) := rfl
set_option maxRecDepth 100000 in
theorem ok_174 {L : Nat} {xs : Nat → Int32} {this : Nat} {p0 : Int} {p1 : Int} {p2 : Int} {p3 : Int} {h : jH} {o : ((Int ⊕ Nat) × jH)} (e : jd_174 this p0 p1 p2 p3 h = some o) : mm_Runs (mm_xt L xs) 5 174 ([jR (some this), jI p0, jI p1, jI p2, jI p3].map jcv) (jaH h) (jres_i o) := by
  refine ey_run0 _ mt_174 (jsl_s rfl) ?_
  unfold jd_174 at e
  refine ey_aload_n (cd_174 rfl) rfl ?_
  refine ey_iload_n (cd_174 rfl) rfl ?_
  obtain ⟨u1, e2, e⟩ := jbind e
  rcases jtb_c e with ⟨v5, h7, e4, e⟩ | ⟨E6, h7, e4, e⟩
  rotate_left
  · cases e
    exact ey_cvX (s0 := [jI p0, jR (some this)]) (s1 := []) (cd_174 rfl) mt_174 rfl mt_195 rfl rfl rfl (jck_s e2) rfl (jsml_s rfl) (mm_Runs.up (d := 1) (by decide) (ok_195 e4))
  refine ey_cv (s0 := [jI p0, jR (some this)]) (s1 := []) (st' := [jR (some v5)]) (cd_174 rfl) mt_174 mt_195 rfl rfl rfl (jck_s e2) rfl (jsml_s rfl) rfl (mm_Runs.up (d := 1) (by decide) (ok_195 e4)) ?_
  refine ey_astore (cd_174 rfl) mt_174 rfl ?_
  refine ey_aload (cd_174 rfl) rfl ?_
  refine ey_iload_n (cd_174 rfl) rfl ?_
  rcases jtb_c e with ⟨v10, h12, e9, e⟩ | ⟨E11, h12, e9, e⟩
  rotate_left
  · cases e
    exact ey_csX (s0 := [jI p1, jR (some v5)]) (s1 := []) (cd_174 rfl) mt_174 rfl mt_192 rfl rfl rfl (jsml_s rfl) (mm_Runs.up (d := 2) (by decide) (ok_192 e9))
  refine ey_cs (s0 := [jI p1, jR (some v5)]) (s1 := []) (st' := [jR (some v10)]) (cd_174 rfl) mt_174 mt_192 rfl (by decide) rfl rfl (jsml_s rfl) rfl (mm_Runs.up (d := 2) (by decide) (ok_192 e9)) ?_
  refine ey_astore (cd_174 rfl) mt_174 rfl ?_
  refine ey_iload_n (cd_174 rfl) rfl ?_
  by_cases q13 : (jw p1) = 0
  · rw [if_pos q13] at e
    refine ey_yne (cd_174 rfl) rfl rfl (fun w => w q13) ?_
    obtain ⟨u14, e15, e⟩ := jbind e
    cases e
    exact ey_throw (st := []) (f := (2, 178, 370, 182, 1)) (cd_174 rfl) mt_174 rfl rfl rfl (j6_s e15) (jsml_s rfl)
  · rw [if_neg q13] at e
    refine ey_zne (cd_174 rfl) rfl rfl q13 ?_
    refine ey_aload (cd_174 rfl) (jup_pr (lv := (jup (jlf (jla 0 [jR (some this), jI p0, jI p1, jI p2, jI p3])) 5 (jR (some v5)))) (j := 5) (v := jR (some v10)) (z := (some v5)) rfl) ?_
    refine ey_iload_n (cd_174 rfl) rfl ?_
    rcases jtb_c e with ⟨v18, h20, e17, e⟩ | ⟨E19, h20, e17, e⟩
    rotate_left
    · cases e
      exact ey_csX (s0 := [jI p2, jR (some v5)]) (s1 := []) (cd_174 rfl) mt_174 rfl mt_189 rfl rfl rfl (jsml_s rfl) (mm_Runs.up (d := 2) (by decide) (ok_189 e17))
    refine ey_cs (s0 := [jI p2, jR (some v5)]) (s1 := []) (st' := []) (cd_174 rfl) mt_174 mt_189 rfl (by decide) rfl rfl (jsml_s rfl) rfl (mm_Runs.up (d := 2) (by decide) (ok_189 e17)) ?_
    refine ey_iload (cd_174 rfl) (jup_o rfl (jup_pi (lv := (jlf (jla 0 [jR (some this), jI p0, jI p1, jI p2, jI p3]))) (j := 4) (v := jR (some v5)) (z := p3) rfl)) ?_
    refine ey_iconst (cd_174 rfl) ?_
    rcases jtb_c e with ⟨v23, h25, e22, e⟩ | ⟨E24, h25, e22, e⟩
    rotate_left
    · cases e
      exact ey_csX (s0 := [jI 2, jI p3]) (s1 := []) (cd_174 rfl) mt_174 rfl mt_185 rfl rfl rfl (jsml_s rfl) (mm_Runs.up (d := 1) (by decide) (ok_185 e22))
    refine ey_cs (s0 := [jI 2, jI p3]) (s1 := []) (st' := []) (cd_174 rfl) mt_174 mt_185 rfl (by decide) rfl rfl (jsml_s rfl) rfl (mm_Runs.up (d := 1) (by decide) (ok_185 e22)) ?_
    refine ey_aload (cd_174 rfl) rfl ?_
    refine ey_aload (cd_174 rfl) (jup_pr (lv := (jup (jlf (jla 0 [jR (some this), jI p0, jI p1, jI p2, jI p3])) 5 (jR (some v5)))) (j := 5) (v := jR (some v10)) (z := (some v5)) rfl) ?_
    refine ey_iload_n (cd_174 rfl) rfl ?_
    refine ey_iconst (cd_174 rfl) ?_
    refine ey_isub (cd_174 rfl) ?_
    rcases jtb_c e with ⟨v28, h30, e27, e⟩ | ⟨E29, h30, e27, e⟩
    rotate_left
    · cases e
      exact ey_csX (s0 := [jI (p1 - 1), jR (some v5), jR (some v10)]) (s1 := [jR (some v10)]) (cd_174 rfl) mt_174 rfl mt_192 rfl rfl rfl (jsml_s rfl) (mm_Runs.up (d := 2) (by decide) (ok_192 e27))
    refine ey_cs (s0 := [jI (p1 - 1), jR (some v5), jR (some v10)]) (s1 := [jR (some v10)]) (st' := [jR (some v28), jR (some v10)]) (cd_174 rfl) mt_174 mt_192 rfl (by decide) rfl rfl (jsml_s rfl) rfl (mm_Runs.up (d := 2) (by decide) (ok_192 e27)) ?_
    refine ey_iload_n (cd_174 rfl) rfl ?_
    refine ey_iload (cd_174 rfl) (jup_o rfl (jup_pi (lv := (jlf (jla 0 [jR (some this), jI p0, jI p1, jI p2, jI p3]))) (j := 4) (v := jR (some v5)) (z := p3) rfl)) ?_
    obtain ⟨u31, e32, e⟩ := jbind e
    obtain ⟨v33, e34, e⟩ := jbind e
    refine ey_cv (s0 := [jI p3, jI p2, jR (some v28), jR (some v10)]) (s1 := []) (st' := [jI v33]) (cd_174 rfl) mt_174 mt_107 rfl rfl rfl (jck_s e32) rfl (jsml_s rfl) rfl (ok_107 e34) ?_
    cases e
    exact ey_reti (cd_174 rfl) mt_174 rfl
theorem cd_200 {pc : Nat} {i : Instr × Nat} (h : mm_lk mm_c200 pc = some i) : mm_cd 200 pc = some i := h
theorem mt_200 : mm_MT 200 = (11, 2, some (.object RX7), 1, 0, []) := rfl
set_option maxRecDepth 100000 in
theorem jk_200_b9 {L : Nat} {xs : Nat → Int32} {this : Nat}  {h : jH} {o : ((Nat ⊕ Nat) × jH)} (e : jd_200_b9 this  h = some o) : ∀ lv : jL, ey (mm_xt L xs) 0 200 9 lv [] h (jres_a o) := by
  intro lv 
  unfold jd_200_b9 at e
  obtain ⟨u2, e3, e⟩ := jbind e
  cases e
  exact ey_throw (st := []) (f := (2, 178, 471, 182, 1)) (cd_200 rfl) mt_200 rfl rfl rfl (j6_s e3) (jsml_s rfl)
set_option maxRecDepth 100000 in
theorem ok_200 {L : Nat} {xs : Nat → Int32} {this : Nat} {p0 : Int} {h : jH} {o : ((Nat ⊕ Nat) × jH)} (e : jd_200 this p0 h = some o) : mm_Runs (mm_xt L xs) 1 200 ([jR (some this), jI p0].map jcv) (jaH h) (jres_a o) := by
  refine ey_run0 _ mt_200 (jsl_s rfl) ?_
  unfold jd_200 at e
  refine ey_iload_n (cd_200 rfl) rfl ?_
  by_cases q1 : (jw p0) < 0
  · rw [if_pos q1] at e
    refine ey_zlt (cd_200 rfl) rfl rfl q1 ?_
    exact jk_200_b9 e (jlf (jla 0 [jR (some this), jI p0])) 
  · rw [if_neg q1] at e
    refine ey_ylt (cd_200 rfl) rfl rfl q1 ?_
    refine ey_iload_n (cd_200 rfl) rfl ?_
    refine ey_iconst (cd_200 rfl) ?_
    by_cases q4 : (jw p0) < 4
    · rw [if_pos q4] at e
      refine ey_clt (cd_200 rfl) rfl rfl (show jw 4 = 4 from by decide) q4 ?_
      refine ey_aload_n (cd_200 rfl) rfl ?_
      obtain ⟨r5, e6, e⟩ := jbind e
      refine ey_getf_r (cd_200 rfl) mt_200 rfl rfl rfl e6 ?_
      refine ey_iload_n (cd_200 rfl) rfl ?_
      obtain ⟨a7, e8, e⟩ := jbind e
      refine ey_rs (s0 := [jI p0, jR r5]) (s1 := [jI p0, jR (some a7)]) (by rw [e8]) ?_
      obtain ⟨r9, e10, e⟩ := jbind e
      refine ey_aald (cd_200 rfl) (by decide) e10 ?_
      obtain ⟨a11, e12, e⟩ := jbind e
      refine ey_rs (s0 := [jR r9]) (s1 := [jR (some a11)]) (by rw [e12]) ?_
      cases e
      exact ey_reta (cd_200 rfl) mt_200 rfl
    · rw [if_neg q4] at e
      refine ey_nlt (cd_200 rfl) rfl rfl (show jw 4 = 4 from by decide) q4 ?_
      exact jk_200_b9 e (jlf (jla 0 [jR (some this), jI p0])) 
theorem cd_175 {pc : Nat} {i : Instr × Nat} (h : mm_lk mm_c175 pc = some i) : mm_cd 175 pc = some i := h
theorem mt_175 : mm_MT 175 = (11, 7, none, 4, 0, []) := rfl
set_option maxRecDepth 100000 in
theorem jk_175_b39 {L : Nat} {xs : Nat → Int32} {this : Nat}  {h : jH} {o : ((Unit ⊕ Nat) × jH)} (e : jd_175_b39 this  h = some o) : ∀ lv : jL, ey (mm_xt L xs) 2 175 39 lv [] h (jres_v o) := by
  intro lv 
  unfold jd_175_b39 at e
  obtain ⟨u16, e17, e⟩ := jbind e
  cases e
  exact ey_throw (st := []) (f := (0, 85, 380, 89, 1)) (cd_175 rfl) mt_175 rfl rfl rfl (j6_s e17) (jsml_s rfl)
set_option maxRecDepth 100000 in
theorem ok_175 {L : Nat} {xs : Nat → Int32} {this : Nat} {p0 : Int} {p1 : Int} {p2 : Int} {p3 : Int} {h : jH} {o : ((Unit ⊕ Nat) × jH)} (e : jd_175 this p0 p1 p2 p3 h = some o) : mm_Runs (mm_xt L xs) 3 175 ([jR (some this), jI p0, jI p1, jI p2, jI p3].map jcv) (jaH h) (jres_v o) := by
  refine ey_run0 _ mt_175 (jsl_s rfl) ?_
  unfold jd_175 at e
  refine ey_aload_n (cd_175 rfl) rfl ?_
  refine ey_iload_n (cd_175 rfl) rfl ?_
  obtain ⟨u1, e2, e⟩ := jbind e
  rcases jtb_c e with ⟨v5, h7, e4, e⟩ | ⟨E6, h7, e4, e⟩
  rotate_left
  · cases e
    exact ey_cvX (s0 := [jI p0, jR (some this)]) (s1 := []) (cd_175 rfl) mt_175 rfl mt_200 rfl rfl rfl (jck_s e2) rfl (jsml_s rfl) (mm_Runs.up (d := 1) (by decide) (ok_200 e4))
  refine ey_cv (s0 := [jI p0, jR (some this)]) (s1 := []) (st' := [jR (some v5)]) (cd_175 rfl) mt_175 mt_200 rfl rfl rfl (jck_s e2) rfl (jsml_s rfl) rfl (mm_Runs.up (d := 1) (by decide) (ok_200 e4)) ?_
  refine ey_astore (cd_175 rfl) mt_175 rfl ?_
  refine ey_aload_n (cd_175 rfl) rfl ?_
  refine ey_iload_n (cd_175 rfl) rfl ?_
  obtain ⟨u8, e9, e⟩ := jbind e
  rcases jtb_c e with ⟨v12, h14, e11, e⟩ | ⟨E13, h14, e11, e⟩
  rotate_left
  · cases e
    exact ey_cvX (s0 := [jI p1, jR (some this)]) (s1 := []) (cd_175 rfl) mt_175 rfl mt_195 rfl rfl rfl (jck_s e9) rfl (jsml_s rfl) (mm_Runs.up (d := 1) (by decide) (ok_195 e11))
  refine ey_cv (s0 := [jI p1, jR (some this)]) (s1 := []) (st' := [jR (some v12)]) (cd_175 rfl) mt_175 mt_195 rfl rfl rfl (jck_s e9) rfl (jsml_s rfl) rfl (mm_Runs.up (d := 1) (by decide) (ok_195 e11)) ?_
  refine ey_astore (cd_175 rfl) mt_175 rfl ?_
  refine ey_iload_n (cd_175 rfl) rfl ?_
  refine ey_iconst (cd_175 rfl) ?_
  by_cases q15 : (jw p2) < 1
  · rw [if_pos q15] at e
    refine ey_clt (cd_175 rfl) rfl rfl (show jw 1 = 1 from by decide) q15 ?_
    exact jk_175_b39 e (jup (jup (jlf (jla 0 [jR (some this), jI p0, jI p1, jI p2, jI p3])) 5 (jR (some v5))) 6 (jR (some v12))) 
  · rw [if_neg q15] at e
    refine ey_nlt (cd_175 rfl) rfl rfl (show jw 1 = 1 from by decide) q15 ?_
    refine ey_iload_n (cd_175 rfl) rfl ?_
    refine ey_sipush (cd_175 rfl) (by decide) ?_
    by_cases q18 : 4000 < (jw p2)
    · rw [if_pos q18] at e
      refine ey_cgt (cd_175 rfl) rfl rfl (show jw 4000 = 4000 from by decide) q18 ?_
      exact jk_175_b39 e (jup (jup (jlf (jla 0 [jR (some this), jI p0, jI p1, jI p2, jI p3])) 5 (jR (some v5))) 6 (jR (some v12))) 
    · rw [if_neg q18] at e
      refine ey_ngt (cd_175 rfl) rfl rfl (show jw 4000 = 4000 from by decide) q18 ?_
      refine ey_iload (cd_175 rfl) (jup_o rfl (jup_pi (lv := (jlf (jla 0 [jR (some this), jI p0, jI p1, jI p2, jI p3]))) (j := 4) (v := jR (some v5)) (z := p3) rfl)) ?_
      by_cases q19 : (jw p3) < 0
      · rw [if_pos q19] at e
        refine ey_zlt (cd_175 rfl) rfl rfl q19 ?_
        exact jk_175_b39 e (jup (jup (jlf (jla 0 [jR (some this), jI p0, jI p1, jI p2, jI p3])) 5 (jR (some v5))) 6 (jR (some v12))) 
      · rw [if_neg q19] at e
        refine ey_ylt (cd_175 rfl) rfl rfl q19 ?_
        refine ey_iload (cd_175 rfl) (jup_o rfl (jup_pi (lv := (jlf (jla 0 [jR (some this), jI p0, jI p1, jI p2, jI p3]))) (j := 4) (v := jR (some v5)) (z := p3) rfl)) ?_
        refine ey_sipush (cd_175 rfl) (by decide) ?_
        by_cases q20 : (jw p3) ≤ 4000
        · rw [if_pos q20] at e
          refine ey_cle (cd_175 rfl) rfl rfl (show jw 4000 = 4000 from by decide) q20 ?_
          refine ey_aload (cd_175 rfl) (jup_pr (lv := (jup (jlf (jla 0 [jR (some this), jI p0, jI p1, jI p2, jI p3])) 5 (jR (some v5)))) (j := 5) (v := jR (some v12)) (z := (some v5)) rfl) ?_
          refine ey_aload (cd_175 rfl) rfl ?_
          refine ey_iload_n (cd_175 rfl) rfl ?_
          refine ey_iload_n (cd_175 rfl) rfl ?_
          refine ey_iload (cd_175 rfl) (jup_o rfl (jup_pi (lv := (jlf (jla 0 [jR (some this), jI p0, jI p1, jI p2, jI p3]))) (j := 4) (v := jR (some v5)) (z := p3) rfl)) ?_
          obtain ⟨u21, e22, e⟩ := jbind e
          obtain ⟨h23, e24, e⟩ := jbind e
          refine ey_cv (s0 := [jI p3, jI p2, jI p1, jR (some v12), jR (some v5)]) (s1 := []) (st' := []) (cd_175 rfl) mt_175 mt_110 rfl rfl rfl (jck_s e22) rfl (jsml_s rfl) rfl (ok_110 e24) ?_
          cases e
          exact ey_retv (cd_175 rfl) mt_175 rfl
        · rw [if_neg q20] at e
          refine ey_nle (cd_175 rfl) rfl rfl (show jw 4000 = 4000 from by decide) q20 ?_
          exact jk_175_b39 e (jup (jup (jlf (jla 0 [jR (some this), jI p0, jI p1, jI p2, jI p3])) 5 (jR (some v5))) 6 (jR (some v12))) 
theorem cd_190 {pc : Nat} {i : Instr × Nat} (h : mm_lk mm_c190 pc = some i) : mm_cd 190 pc = some i := h
theorem mt_190 : mm_MT 190 = (11, 1, none, 1, 1, []) := rfl
set_option maxRecDepth 100000 in
theorem ok_190 {L : Nat} {xs : Nat → Int32} {p0 : Option Nat} {h : jH} {o : ((Unit ⊕ Nat) × jH)} (e : jd_190 p0 h = some o) : mm_Runs (mm_xt L xs) 1 190 ([jR p0].map jcv) (jaH h) (jres_v o) := by
  refine ey_run0 _ mt_190 (jsl_s rfl) ?_
  unfold jd_190 at e
  refine ey_aload_n (cd_190 rfl) rfl ?_
  obtain ⟨a1, e2, e⟩ := jbind e
  refine ey_rs (s0 := [jR p0]) (s1 := [jR (some a1)]) (by rw [e2]) ?_
  obtain ⟨r3, e4, e⟩ := jbind e
  refine ey_getf_r (cd_190 rfl) mt_190 rfl rfl rfl e4 ?_
  by_cases q5 : r3 = none
  · rw [if_pos q5] at e
    refine ey_rs (s0 := [jR r3]) (s1 := [jR none]) (by rw [q5]) ?_
    refine ey_ifnonnull_n (cd_190 rfl) rfl ?_
    obtain ⟨u6, e7, e⟩ := jbind e
    cases e
    exact ey_throw (st := []) (f := (1, 173, 447, 177, 1)) (cd_190 rfl) mt_190 rfl rfl rfl (j6_s e7) (jsml_s rfl)
  · rw [if_neg q5] at e
    obtain ⟨w8, w8e⟩ := Option.ne_none_iff_exists'.mp q5
    refine ey_rs (s0 := [jR r3]) (s1 := [jR (some w8)]) (by rw [w8e]) ?_
    refine ey_ifnonnull_s (cd_190 rfl) rfl ?_
    cases e
    exact ey_retv (cd_190 rfl) mt_190 rfl
theorem cd_201 {pc : Nat} {i : Instr × Nat} (h : mm_lk mm_c201 pc = some i) : mm_cd 201 pc = some i := h
theorem mt_201 : mm_MT 201 = (11, 3, some (.object RX7), 1, 0, []) := rfl
set_option maxRecDepth 100000 in
theorem ok_201 {L : Nat} {xs : Nat → Int32} {this : Nat} {p0 : Int} {h : jH} {o : ((Nat ⊕ Nat) × jH)} (e : jd_201 this p0 h = some o) : mm_Runs (mm_xt L xs) 2 201 ([jR (some this), jI p0].map jcv) (jaH h) (jres_a o) := by
  refine ey_run0 _ mt_201 (jsl_s rfl) ?_
  unfold jd_201 at e
  refine ey_aload_n (cd_201 rfl) rfl ?_
  refine ey_iload_n (cd_201 rfl) rfl ?_
  obtain ⟨u1, e2, e⟩ := jbind e
  rcases jtb_c e with ⟨v5, h7, e4, e⟩ | ⟨E6, h7, e4, e⟩
  rotate_left
  · cases e
    exact ey_cvX (s0 := [jI p0, jR (some this)]) (s1 := []) (cd_201 rfl) mt_201 rfl mt_200 rfl rfl rfl (jck_s e2) rfl (jsml_s rfl) (ok_200 e4)
  refine ey_cv (s0 := [jI p0, jR (some this)]) (s1 := []) (st' := [jR (some v5)]) (cd_201 rfl) mt_201 mt_200 rfl rfl rfl (jck_s e2) rfl (jsml_s rfl) rfl (ok_200 e4) ?_
  refine ey_astore_n (cd_201 rfl) mt_201 rfl ?_
  refine ey_aload_n (cd_201 rfl) rfl ?_
  rcases jtb_c e with ⟨v10, h12, e9, e⟩ | ⟨E11, h12, e9, e⟩
  rotate_left
  · cases e
    exact ey_csX (s0 := [jR (some v5)]) (s1 := []) (cd_201 rfl) mt_201 rfl mt_190 rfl rfl rfl (jsml_s rfl) (ok_190 e9)
  refine ey_cs (s0 := [jR (some v5)]) (s1 := []) (st' := []) (cd_201 rfl) mt_201 mt_190 rfl (by decide) rfl rfl (jsml_s rfl) rfl (ok_190 e9) ?_
  refine ey_aload_n (cd_201 rfl) rfl ?_
  cases e
  exact ey_reta (cd_201 rfl) mt_201 rfl
theorem cd_176 {pc : Nat} {i : Instr × Nat} (h : mm_lk mm_c176 pc = some i) : mm_cd 176 pc = some i := h
theorem mt_176 : mm_MT 176 = (11, 5, some .int, 1, 0, []) := rfl
set_option maxRecDepth 100000 in
theorem jk_176_b50 {L : Nat} {xs : Nat → Int32} {this : Nat} {x3 : Int} {h : jH} {o : ((Int ⊕ Nat) × jH)} (e : jd_176_b50 this x3 h = some o) : ∀ lv : jL, lv 3 = some (jI x3) → ey (mm_xt L xs) 7 176 50 lv [] h (jres_i o) := by
  intro lv f3
  unfold jd_176_b50 at e
  refine ey_iload_n (cd_176 rfl) f3 ?_
  cases e
  exact ey_reti (cd_176 rfl) mt_176 rfl
set_option maxRecDepth 100000 in
theorem ok_176 {L : Nat} {xs : Nat → Int32} {this : Nat} {p0 : Int} {h : jH} {o : ((Int ⊕ Nat) × jH)} (e : jd_176 this p0 h = some o) : mm_Runs (mm_xt L xs) 8 176 ([jR (some this), jI p0].map jcv) (jaH h) (jres_i o) := by
  refine ey_run0 _ mt_176 (jsl_s rfl) ?_
  unfold jd_176 at e
  refine ey_aload_n (cd_176 rfl) rfl ?_
  refine ey_iload_n (cd_176 rfl) rfl ?_
  obtain ⟨u1, e2, e⟩ := jbind e
  rcases jtb_c e with ⟨v5, h7, e4, e⟩ | ⟨E6, h7, e4, e⟩
  rotate_left
  · cases e
    exact ey_cvX (s0 := [jI p0, jR (some this)]) (s1 := []) (cd_176 rfl) mt_176 rfl mt_201 rfl rfl rfl (jck_s e2) rfl (jsml_s rfl) (mm_Runs.up (d := 2) (by decide) (ok_201 e4))
  refine ey_cv (s0 := [jI p0, jR (some this)]) (s1 := []) (st' := [jR (some v5)]) (cd_176 rfl) mt_176 mt_201 rfl rfl rfl (jck_s e2) rfl (jsml_s rfl) rfl (mm_Runs.up (d := 2) (by decide) (ok_201 e4)) ?_
  refine ey_astore_n (cd_176 rfl) mt_176 rfl ?_
  refine ey_aload_n (cd_176 rfl) rfl ?_
  obtain ⟨u8, e9, e⟩ := jbind e
  obtain ⟨q10, e11, e⟩ := jbind e
  refine ey_cv (s0 := [jR (some v5)]) (s1 := []) (st' := [jI q10.1]) (cd_176 rfl) mt_176 mt_112 rfl rfl rfl (jck_s e9) rfl (jsml_s rfl) rfl (mm_Runs.up (d := 2) (by decide) (ok_112 e11)) ?_
  refine ey_istore_n (cd_176 rfl) mt_176 rfl ?_
  refine ey_iload_n (cd_176 rfl) rfl ?_
  by_cases q12 : (jw q10.1) < 0
  · rw [if_pos q12] at e
    refine ey_zlt (cd_176 rfl) rfl rfl q12 ?_
    exact jk_176_b50 e (jup (jup (jlf (jla 0 [jR (some this), jI p0])) 2 (jR (some v5))) 3 (jI q10.1)) rfl
  · rw [if_neg q12] at e
    refine ey_ylt (cd_176 rfl) rfl rfl q12 ?_
    refine ey_aload_n (cd_176 rfl) (jup_pr (lv := (jup (jlf (jla 0 [jR (some this), jI p0])) 2 (jR (some v5)))) (j := 2) (v := jI q10.1) (z := (some v5)) rfl) ?_
    obtain ⟨r13, e14, e⟩ := jbind e
    refine ey_getf_r (cd_176 rfl) mt_176 rfl rfl rfl e14 ?_
    obtain ⟨a15, e16, e⟩ := jbind e
    refine ey_rs (s0 := [jR r13]) (s1 := [jR (some a15)]) (by rw [e16]) ?_
    obtain ⟨r17, e18, e⟩ := jbind e
    refine ey_getf_r (cd_176 rfl) mt_176 rfl rfl rfl e18 ?_
    refine ey_iload_n (cd_176 rfl) rfl ?_
    obtain ⟨a19, e20, e⟩ := jbind e
    refine ey_rs (s0 := [jI q10.1, jR r17]) (s1 := [jI q10.1, jR (some a19)]) (by rw [e20]) ?_
    obtain ⟨v21, e22, e⟩ := jbind e
    refine ey_iald (cd_176 rfl) e22 ?_
    refine ey_istore (cd_176 rfl) mt_176 rfl ?_
    refine ey_aload_n (cd_176 rfl) (jup_o rfl (jup_pr (lv := (jup (jlf (jla 0 [jR (some this), jI p0])) 2 (jR (some v5)))) (j := 2) (v := jI q10.1) (z := (some v5)) rfl)) ?_
    obtain ⟨r23, e24, e⟩ := jbind e
    refine ey_getf_r (cd_176 rfl) mt_176 rfl rfl rfl e24 ?_
    refine ey_aload_n (cd_176 rfl) rfl ?_
    obtain ⟨r25, e26, e⟩ := jbind e
    refine ey_getf_r (cd_176 rfl) mt_176 rfl rfl rfl e26 ?_
    refine ey_aload_n (cd_176 rfl) (jup_o rfl (jup_pr (lv := (jup (jlf (jla 0 [jR (some this), jI p0])) 2 (jR (some v5)))) (j := 2) (v := jI q10.1) (z := (some v5)) rfl)) ?_
    obtain ⟨r27, e28, e⟩ := jbind e
    refine ey_getf_r (cd_176 rfl) mt_176 rfl rfl rfl e28 ?_
    refine ey_iload (cd_176 rfl) rfl ?_
    refine ey_aload_n (cd_176 rfl) (jup_o rfl (jup_pr (lv := (jup (jlf (jla 0 [jR (some this), jI p0])) 2 (jR (some v5)))) (j := 2) (v := jI q10.1) (z := (some v5)) rfl)) ?_
    obtain ⟨v29, e30, e⟩ := jbind e
    refine ey_getf_i (cd_176 rfl) mt_176 rfl rfl rfl e30 ?_
    obtain ⟨a31, e32, e⟩ := jbind e
    refine ey_rs (s0 := [jI v29, jI v21, jR r27, jR r25, jR r23]) (s1 := [jI v29, jI v21, jR r27, jR (some a31), jR r23]) (by rw [e32]) ?_
    obtain ⟨u33, e34, e⟩ := jbind e
    obtain ⟨q35, e36, e⟩ := jbind e
    refine ey_cv (s0 := [jI v29, jI v21, jR r27, jR (some a31), jR r23]) (s1 := [jR r23]) (st' := [jR (some q35.1), jR r23]) (cd_176 rfl) mt_176 mt_114 rfl rfl rfl (jck_s e34) rfl (jsml_s rfl) rfl (ok_114 e36) ?_
    obtain ⟨a37, e38, e⟩ := jbind e
    refine ey_rs (s0 := [jR (some q35.1), jR r23]) (s1 := [jR (some q35.1), jR (some a37)]) (by rw [e38]) ?_
    obtain ⟨u39, e40, e⟩ := jbind e
    obtain ⟨h41, e42, e⟩ := jbind e
    refine ey_cv (s0 := [jR (some q35.1), jR (some a37)]) (s1 := []) (st' := []) (cd_176 rfl) mt_176 mt_102 rfl rfl rfl (jck_s e40) rfl (jsml_s rfl) rfl (mm_Runs.up (d := 2) (by decide) (ok_102 e42)) ?_
    exact jk_176_b50 e (jup (jup (jup (jlf (jla 0 [jR (some this), jI p0])) 2 (jR (some v5))) 3 (jI q10.1)) 4 (jI v21)) (jup_pi (lv := (jup (jup (jlf (jla 0 [jR (some this), jI p0])) 2 (jR (some v5))) 3 (jI q10.1))) (j := 3) (v := jI v21) (z := q10.1) rfl)
theorem cd_177 {pc : Nat} {i : Instr × Nat} (h : mm_lk mm_c177 pc = some i) : mm_cd 177 pc = some i := h
theorem mt_177 : mm_MT 177 = (11, 3, none, 2, 0, []) := rfl
set_option maxRecDepth 100000 in
theorem ok_177 {L : Nat} {xs : Nat → Int32} {this : Nat} {p0 : Int} {p1 : Int} {h : jH} {o : ((Unit ⊕ Nat) × jH)} (e : jd_177 this p0 p1 h = some o) : mm_Runs (mm_xt L xs) 3 177 ([jR (some this), jI p0, jI p1].map jcv) (jaH h) (jres_v o) := by
  refine ey_run0 _ mt_177 (jsl_s rfl) ?_
  unfold jd_177 at e
  refine ey_aload_n (cd_177 rfl) rfl ?_
  refine ey_iload_n (cd_177 rfl) rfl ?_
  obtain ⟨u1, e2, e⟩ := jbind e
  rcases jtb_c e with ⟨v5, h7, e4, e⟩ | ⟨E6, h7, e4, e⟩
  rotate_left
  · cases e
    exact ey_cvX (s0 := [jI p0, jR (some this)]) (s1 := []) (cd_177 rfl) mt_177 rfl mt_201 rfl rfl rfl (jck_s e2) rfl (jsml_s rfl) (ok_201 e4)
  refine ey_cv (s0 := [jI p0, jR (some this)]) (s1 := []) (st' := [jR (some v5)]) (cd_177 rfl) mt_177 mt_201 rfl rfl rfl (jck_s e2) rfl (jsml_s rfl) rfl (ok_201 e4) ?_
  refine ey_iload_n (cd_177 rfl) rfl ?_
  obtain ⟨h8, e9, e⟩ := jbind e
  refine ey_putf_i (cd_177 rfl) mt_177 rfl rfl rfl e9 ?_
  cases e
  exact ey_retv (cd_177 rfl) mt_177 rfl
theorem cd_178 {pc : Nat} {i : Instr × Nat} (h : mm_lk mm_c178 pc = some i) : mm_cd 178 pc = some i := h
theorem mt_178 : mm_MT 178 = (11, 4, none, 2, 0, []) := rfl
set_option maxRecDepth 100000 in
theorem ok_178 {L : Nat} {xs : Nat → Int32} {this : Nat} {p0 : Int} {p1 : Int} {h : jH} {o : ((Unit ⊕ Nat) × jH)} (e : jd_178 this p0 p1 h = some o) : mm_Runs (mm_xt L xs) 3 178 ([jR (some this), jI p0, jI p1].map jcv) (jaH h) (jres_v o) := by
  refine ey_run0 _ mt_178 (jsl_s rfl) ?_
  unfold jd_178 at e
  refine ey_aload_n (cd_178 rfl) rfl ?_
  refine ey_iload_n (cd_178 rfl) rfl ?_
  obtain ⟨u1, e2, e⟩ := jbind e
  rcases jtb_c e with ⟨v5, h7, e4, e⟩ | ⟨E6, h7, e4, e⟩
  rotate_left
  · cases e
    exact ey_cvX (s0 := [jI p0, jR (some this)]) (s1 := []) (cd_178 rfl) mt_178 rfl mt_201 rfl rfl rfl (jck_s e2) rfl (jsml_s rfl) (ok_201 e4)
  refine ey_cv (s0 := [jI p0, jR (some this)]) (s1 := []) (st' := [jR (some v5)]) (cd_178 rfl) mt_178 mt_201 rfl rfl rfl (jck_s e2) rfl (jsml_s rfl) rfl (ok_201 e4) ?_
  refine ey_astore_n (cd_178 rfl) mt_178 rfl ?_
  refine ey_aload_n (cd_178 rfl) rfl ?_
  obtain ⟨r8, e9, e⟩ := jbind e
  refine ey_getf_r (cd_178 rfl) mt_178 rfl rfl rfl e9 ?_
  refine ey_iload_n (cd_178 rfl) (jup_pi (lv := (jlf (jla 0 [jR (some this), jI p0, jI p1]))) (j := 2) (v := jR (some v5)) (z := p1) rfl) ?_
  rcases jtb_c e with ⟨v12, h14, e11, e⟩ | ⟨E13, h14, e11, e⟩
  rotate_left
  · cases e
    exact ey_csX (s0 := [jI p1, jR r8]) (s1 := []) (cd_178 rfl) mt_178 rfl mt_188 rfl rfl rfl (jsml_s rfl) (mm_Runs.up (d := 1) (by decide) (ok_188 e11))
  refine ey_cs (s0 := [jI p1, jR r8]) (s1 := []) (st' := []) (cd_178 rfl) mt_178 mt_188 rfl (by decide) rfl rfl (jsml_s rfl) rfl (mm_Runs.up (d := 1) (by decide) (ok_188 e11)) ?_
  refine ey_aload_n (cd_178 rfl) rfl ?_
  refine ey_iload_n (cd_178 rfl) (jup_pi (lv := (jlf (jla 0 [jR (some this), jI p0, jI p1]))) (j := 2) (v := jR (some v5)) (z := p1) rfl) ?_
  obtain ⟨u15, e16, e⟩ := jbind e
  obtain ⟨h17, e18, e⟩ := jbind e
  refine ey_cv (s0 := [jI p1, jR (some v5)]) (s1 := []) (st' := []) (cd_178 rfl) mt_178 mt_111 rfl rfl rfl (jck_s e16) rfl (jsml_s rfl) rfl (ok_111 e18) ?_
  cases e
  exact ey_retv (cd_178 rfl) mt_178 rfl
theorem cd_179 {pc : Nat} {i : Instr × Nat} (h : mm_lk mm_c179 pc = some i) : mm_cd 179 pc = some i := h
theorem mt_179 : mm_MT 179 = (11, 4, some .int, 2, 0, []) := rfl
set_option maxRecDepth 100000 in
theorem ok_179 {L : Nat} {xs : Nat → Int32} {this : Nat} {p0 : Int} {p1 : Int} {h : jH} {o : ((Int ⊕ Nat) × jH)} (e : jd_179 this p0 p1 h = some o) : mm_Runs (mm_xt L xs) 2 179 ([jR (some this), jI p0, jI p1].map jcv) (jaH h) (jres_i o) := by
  refine ey_run0 _ mt_179 (jsl_s rfl) ?_
  unfold jd_179 at e
  refine ey_aload_n (cd_179 rfl) rfl ?_
  refine ey_iload_n (cd_179 rfl) rfl ?_
  obtain ⟨u1, e2, e⟩ := jbind e
  rcases jtb_c e with ⟨v5, h7, e4, e⟩ | ⟨E6, h7, e4, e⟩
  rotate_left
  · cases e
    exact ey_cvX (s0 := [jI p0, jR (some this)]) (s1 := []) (cd_179 rfl) mt_179 rfl mt_200 rfl rfl rfl (jck_s e2) rfl (jsml_s rfl) (ok_200 e4)
  refine ey_cv (s0 := [jI p0, jR (some this)]) (s1 := []) (st' := [jR (some v5)]) (cd_179 rfl) mt_179 mt_200 rfl rfl rfl (jck_s e2) rfl (jsml_s rfl) rfl (ok_200 e4) ?_
  refine ey_astore_n (cd_179 rfl) mt_179 rfl ?_
  refine ey_iload_n (cd_179 rfl) (jup_pi (lv := (jlf (jla 0 [jR (some this), jI p0, jI p1]))) (j := 2) (v := jR (some v5)) (z := p1) rfl) ?_
  refine ey_iconst (cd_179 rfl) ?_
  rcases jtb_c e with ⟨v10, h12, e9, e⟩ | ⟨E11, h12, e9, e⟩
  rotate_left
  · cases e
    exact ey_csX (s0 := [jI 5, jI p1]) (s1 := []) (cd_179 rfl) mt_179 rfl mt_185 rfl rfl rfl (jsml_s rfl) (ok_185 e9)
  refine ey_cs (s0 := [jI 5, jI p1]) (s1 := []) (st' := []) (cd_179 rfl) mt_179 mt_185 rfl (by decide) rfl rfl (jsml_s rfl) rfl (ok_185 e9) ?_
  refine ey_aload_n (cd_179 rfl) rfl ?_
  rcases jtb_c e with ⟨v15, h17, e14, e⟩ | ⟨E16, h17, e14, e⟩
  rotate_left
  · cases e
    exact ey_csX (s0 := [jR (some v5)]) (s1 := []) (cd_179 rfl) mt_179 rfl mt_190 rfl rfl rfl (jsml_s rfl) (ok_190 e14)
  refine ey_cs (s0 := [jR (some v5)]) (s1 := []) (st' := []) (cd_179 rfl) mt_179 mt_190 rfl (by decide) rfl rfl (jsml_s rfl) rfl (ok_190 e14) ?_
  refine ey_iload_n (cd_179 rfl) (jup_pi (lv := (jlf (jla 0 [jR (some this), jI p0, jI p1]))) (j := 2) (v := jR (some v5)) (z := p1) rfl) ?_
  by_cases q18 : (jw p1) = 0
  · rw [if_pos q18] at e
    refine ey_tsw (cd_179 rfl) q18 (by decide) rfl rfl ?_
    refine ey_aload_n (cd_179 rfl) rfl ?_
    obtain ⟨v19, e20, e⟩ := jbind e
    refine ey_getf_i (cd_179 rfl) mt_179 rfl rfl rfl e20 ?_
    cases e
    exact ey_reti (cd_179 rfl) mt_179 rfl
  · rw [if_neg q18] at e
    by_cases q21 : (jw p1) = 1
    · rw [if_pos q21] at e
      refine ey_tsw (cd_179 rfl) q21 (by decide) rfl rfl ?_
      refine ey_aload_n (cd_179 rfl) rfl ?_
      obtain ⟨v22, e23, e⟩ := jbind e
      refine ey_getf_i (cd_179 rfl) mt_179 rfl rfl rfl e23 ?_
      cases e
      exact ey_reti (cd_179 rfl) mt_179 rfl
    · rw [if_neg q21] at e
      by_cases q24 : (jw p1) = 2
      · rw [if_pos q24] at e
        refine ey_tsw (cd_179 rfl) q24 (by decide) rfl rfl ?_
        refine ey_aload_n (cd_179 rfl) rfl ?_
        obtain ⟨v25, e26, e⟩ := jbind e
        refine ey_getf_i (cd_179 rfl) mt_179 rfl rfl rfl e26 ?_
        cases e
        exact ey_reti (cd_179 rfl) mt_179 rfl
      · rw [if_neg q24] at e
        by_cases q27 : (jw p1) = 3
        · rw [if_pos q27] at e
          refine ey_tsw (cd_179 rfl) q27 (by decide) rfl rfl ?_
          refine ey_aload_n (cd_179 rfl) rfl ?_
          obtain ⟨v28, e29, e⟩ := jbind e
          refine ey_getf_z (cd_179 rfl) mt_179 rfl rfl rfl e29 ?_
          have K30 : ∀ lv : jL, ey (mm_xt L xs) 1 179 79 lv [jI (if (jw v28) = 0 then 0 else 1)] h17 (jres_i o) := by
            intro lv 
            cases e
            exact ey_reti (cd_179 rfl) mt_179 rfl
          by_cases q31 : (jw v28) = 0
          · refine ey_zeq (cd_179 rfl) rfl rfl q31 ?_
            refine ey_iconst (cd_179 rfl) ?_
            exact ey_rs (s0 := [jI 0]) (s1 := [jI (if (jw v28) = 0 then 0 else 1)]) (by rw [show ((if (jw v28) = 0 then 0 else 1) : Int) = 0 from (if_pos q31)]) (K30 (jup (jlf (jla 0 [jR (some this), jI p0, jI p1])) 3 (jR (some v5))) )
          · refine ey_yeq (cd_179 rfl) rfl rfl q31 ?_
            refine ey_iconst (cd_179 rfl) ?_
            refine ey_goto (cd_179 rfl) rfl ?_
            exact ey_rs (s0 := [jI 1]) (s1 := [jI (if (jw v28) = 0 then 0 else 1)]) (by rw [show ((if (jw v28) = 0 then 0 else 1) : Int) = 1 from (if_neg q31)]) (K30 (jup (jlf (jla 0 [jR (some this), jI p0, jI p1])) 3 (jR (some v5))) )
        · rw [if_neg q27] at e
          by_cases q32 : (jw p1) = 4
          · rw [if_pos q32] at e
            refine ey_tsw (cd_179 rfl) q32 (by decide) rfl rfl ?_
            refine ey_aload_n (cd_179 rfl) rfl ?_
            obtain ⟨v33, e34, e⟩ := jbind e
            refine ey_getf_i (cd_179 rfl) mt_179 rfl rfl rfl e34 ?_
            cases e
            exact ey_reti (cd_179 rfl) mt_179 rfl
          · rw [if_neg q32] at e
            refine ey_tsw_d (cd_179 rfl) (by omega) rfl ?_
            refine ey_aload_n (cd_179 rfl) rfl ?_
            obtain ⟨v35, e36, e⟩ := jbind e
            refine ey_getf_i (cd_179 rfl) mt_179 rfl rfl rfl e36 ?_
            cases e
            exact ey_reti (cd_179 rfl) mt_179 rfl
theorem cd_180 {pc : Nat} {i : Instr × Nat} (h : mm_lk mm_c180 pc = some i) : mm_cd 180 pc = some i := h
theorem mt_180 : mm_MT 180 = (11, 7, some .int, 4, 0, []) := rfl
set_option maxRecDepth 100000 in
theorem ok_180 {L : Nat} {xs : Nat → Int32} {this : Nat} {p0 : Int} {p1 : Int} {p2 : Int} {p3 : Int} {h : jH} {o : ((Int ⊕ Nat) × jH)} (e : jd_180 this p0 p1 p2 p3 h = some o) : mm_Runs (mm_xt L xs) 3 180 ([jR (some this), jI p0, jI p1, jI p2, jI p3].map jcv) (jaH h) (jres_i o) := by
  refine ey_run0 _ mt_180 (jsl_s rfl) ?_
  unfold jd_180 at e
  refine ey_aload_n (cd_180 rfl) rfl ?_
  refine ey_iload_n (cd_180 rfl) rfl ?_
  obtain ⟨u1, e2, e⟩ := jbind e
  rcases jtb_c e with ⟨v5, h7, e4, e⟩ | ⟨E6, h7, e4, e⟩
  rotate_left
  · cases e
    exact ey_cvX (s0 := [jI p0, jR (some this)]) (s1 := []) (cd_180 rfl) mt_180 rfl mt_200 rfl rfl rfl (jck_s e2) rfl (jsml_s rfl) (mm_Runs.up (d := 1) (by decide) (ok_200 e4))
  refine ey_cv (s0 := [jI p0, jR (some this)]) (s1 := []) (st' := [jR (some v5)]) (cd_180 rfl) mt_180 mt_200 rfl rfl rfl (jck_s e2) rfl (jsml_s rfl) rfl (mm_Runs.up (d := 1) (by decide) (ok_200 e4)) ?_
  refine ey_astore (cd_180 rfl) mt_180 rfl ?_
  refine ey_iload_n (cd_180 rfl) rfl ?_
  rcases jtb_c e with ⟨v10, h12, e9, e⟩ | ⟨E11, h12, e9, e⟩
  rotate_left
  · cases e
    exact ey_csX (s0 := [jI p1]) (s1 := []) (cd_180 rfl) mt_180 rfl mt_186 rfl rfl rfl (jsml_s rfl) (mm_Runs.up (d := 1) (by decide) (ok_186 e9))
  refine ey_cs (s0 := [jI p1]) (s1 := []) (st' := []) (cd_180 rfl) mt_180 mt_186 rfl (by decide) rfl rfl (jsml_s rfl) rfl (mm_Runs.up (d := 1) (by decide) (ok_186 e9)) ?_
  refine ey_aload (cd_180 rfl) rfl ?_
  rcases jtb_c e with ⟨v15, h17, e14, e⟩ | ⟨E16, h17, e14, e⟩
  rotate_left
  · cases e
    exact ey_csX (s0 := [jR (some v5)]) (s1 := []) (cd_180 rfl) mt_180 rfl mt_190 rfl rfl rfl (jsml_s rfl) (mm_Runs.up (d := 1) (by decide) (ok_190 e14))
  refine ey_cs (s0 := [jR (some v5)]) (s1 := []) (st' := []) (cd_180 rfl) mt_180 mt_190 rfl (by decide) rfl rfl (jsml_s rfl) rfl (mm_Runs.up (d := 1) (by decide) (ok_190 e14)) ?_
  refine ey_aload (cd_180 rfl) rfl ?_
  obtain ⟨r18, e19, e⟩ := jbind e
  refine ey_getf_r (cd_180 rfl) mt_180 rfl rfl rfl e19 ?_
  obtain ⟨a20, e21, e⟩ := jbind e
  refine ey_rs (s0 := [jR r18]) (s1 := [jR (some a20)]) (by rw [e21]) ?_
  obtain ⟨r22, e23, e⟩ := jbind e
  refine ey_getf_r (cd_180 rfl) mt_180 rfl rfl rfl e23 ?_
  refine ey_iconst (cd_180 rfl) ?_
  obtain ⟨a24, e25, e⟩ := jbind e
  refine ey_rs (s0 := [jI 0, jR r22]) (s1 := [jI 0, jR (some a24)]) (by rw [e25]) ?_
  obtain ⟨r26, e27, e⟩ := jbind e
  refine ey_aald (cd_180 rfl) (by decide) e27 ?_
  refine ey_iload_n (cd_180 rfl) rfl ?_
  refine ey_iload_n (cd_180 rfl) rfl ?_
  refine ey_iload (cd_180 rfl) (jup_pi (lv := (jlf (jla 0 [jR (some this), jI p0, jI p1, jI p2, jI p3]))) (j := 4) (v := jR (some v5)) (z := p3) rfl) ?_
  rcases jtb_c e with ⟨v30, h32, e29, e⟩ | ⟨E31, h32, e29, e⟩
  rotate_left
  · cases e
    exact ey_csX (s0 := [jI p3, jI p2, jI p1, jR r26]) (s1 := []) (cd_180 rfl) mt_180 rfl mt_191 rfl rfl rfl (jsml_s rfl) (ok_191 e29)
  refine ey_cs (s0 := [jI p3, jI p2, jI p1, jR r26]) (s1 := []) (st' := [jI v30]) (cd_180 rfl) mt_180 mt_191 rfl (by decide) rfl rfl (jsml_s rfl) rfl (ok_191 e29) ?_
  refine ey_istore (cd_180 rfl) mt_180 rfl ?_
  refine ey_aload (cd_180 rfl) (jup_pr (lv := (jup (jlf (jla 0 [jR (some this), jI p0, jI p1, jI p2, jI p3])) 5 (jR (some v5)))) (j := 5) (v := jI v30) (z := (some v5)) rfl) ?_
  obtain ⟨v33, e34, e⟩ := jbind e
  refine ey_getf_i (cd_180 rfl) mt_180 rfl rfl rfl e34 ?_
  by_cases q35 : 0 ≤ (jw v33)
  · rw [if_pos q35] at e
    refine ey_zge (cd_180 rfl) rfl rfl q35 ?_
    refine ey_aload (cd_180 rfl) (jup_pr (lv := (jup (jlf (jla 0 [jR (some this), jI p0, jI p1, jI p2, jI p3])) 5 (jR (some v5)))) (j := 5) (v := jI v30) (z := (some v5)) rfl) ?_
    obtain ⟨r36, e37, e⟩ := jbind e
    refine ey_getf_r (cd_180 rfl) mt_180 rfl rfl rfl e37 ?_
    obtain ⟨a38, e39, e⟩ := jbind e
    refine ey_rs (s0 := [jR r36]) (s1 := [jR (some a38)]) (by rw [e39]) ?_
    obtain ⟨r40, e41, e⟩ := jbind e
    refine ey_getf_r (cd_180 rfl) mt_180 rfl rfl rfl e41 ?_
    refine ey_iload (cd_180 rfl) rfl ?_
    obtain ⟨a42, e43, e⟩ := jbind e
    refine ey_rs (s0 := [jI v30, jR r40]) (s1 := [jI v30, jR (some a42)]) (by rw [e43]) ?_
    obtain ⟨v44, e45, e⟩ := jbind e
    refine ey_iald (cd_180 rfl) e45 ?_
    cases e
    exact ey_reti (cd_180 rfl) mt_180 rfl
  · rw [if_neg q35] at e
    refine ey_yge (cd_180 rfl) rfl rfl q35 ?_
    obtain ⟨u46, e47, e⟩ := jbind e
    cases e
    exact ey_throw (st := []) (f := (1, 173, 430, 177, 1)) (cd_180 rfl) mt_180 rfl rfl rfl (j6_s e47) (jsml_s rfl)
