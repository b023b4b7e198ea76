theorem cd_295 {pc : Nat} {i : Instr × Nat} (h : mm_lk mm_c295 pc = some i) : mm_cd 295 pc = some i := h
theorem mt_295 : mm_MT 295 = (12, 3, none, 2, 0, []) := rfl
set_option maxRecDepth 100000 in
theorem ok_295 {L : Nat} {xs : Nat → Int32} {b : jH} (hb : 152 ≤ b.1) (h6 : b.1 ≤ 1000000) {p0 : Int} {p1 : Int} {m : jM} {o : jM} (e : jd_295 p0 p1 m = some o) : mm_Runs (mm_xt L xs) 2 295 ([jR (some 76), jI p0, jI p1].map jcv) (jaH (jhm b m)) (.inl (none, jaH (jhm b o))) := by
  refine ey_run0 _ mt_295 (jsl_s rfl) ?_
  unfold jd_295 at e
  refine ey_aload_n (cd_295 rfl) rfl ?_
  refine ey_iconst (cd_295 rfl) ?_
  obtain ⟨m1, e2, e⟩ := jbind e
  refine ey_putf_i (cd_295 rfl) mt_295 rfl rfl rfl (jhm_pi' (k := 47) hb e2) ?_
  refine ey_aload_n (cd_295 rfl) rfl ?_
  refine ey_bipush (cd_295 rfl) (by decide) ?_
  obtain ⟨m3, e4, e⟩ := jbind e
  refine ey_cv (s0 := [jI 77, jR (some 76)]) (s1 := []) (st' := []) (cd_295 rfl) mt_295 mt_292 rfl rfl rfl (jhm_is hb) rfl (jsml_s rfl) rfl (ok_292 hb h6 e4) ?_
  refine ey_aload_n (cd_295 rfl) rfl ?_
  refine ey_bipush (cd_295 rfl) (by decide) ?_
  obtain ⟨m5, e6, e⟩ := jbind e
  refine ey_cv (s0 := [jI 70, jR (some 76)]) (s1 := []) (st' := []) (cd_295 rfl) mt_295 mt_292 rfl rfl rfl (jhm_is hb) rfl (jsml_s rfl) rfl (ok_292 hb h6 e6) ?_
  refine ey_aload_n (cd_295 rfl) rfl ?_
  refine ey_aload_n (cd_295 rfl) rfl ?_
  refine ey_getf_i (z := (m5 76 32)) (cd_295 rfl) mt_295 rfl rfl rfl (jhm_gi hb 32) ?_
  obtain ⟨m7, e8, e⟩ := jbind e
  refine ey_cv (s0 := [jI (m5 76 32), jR (some 76)]) (s1 := []) (st' := []) (cd_295 rfl) mt_295 mt_292 rfl rfl rfl (jhm_is hb) rfl (jsml_s rfl) rfl (ok_292 hb h6 e8) ?_
  refine ey_aload_n (cd_295 rfl) rfl ?_
  refine ey_aload_n (cd_295 rfl) rfl ?_
  refine ey_getf_i (z := (m7 76 33)) (cd_295 rfl) mt_295 rfl rfl rfl (jhm_gi hb 33) ?_
  refine ey_bipush (cd_295 rfl) (by decide) ?_
  refine ey_idiv (cd_295 rfl) (by decide) ?_
  obtain ⟨m9, e10, e⟩ := jbind e
  refine ey_cv (s0 := [jI (jdiv (m7 76 33) 8), jR (some 76)]) (s1 := []) (st' := []) (cd_295 rfl) mt_295 mt_292 rfl rfl rfl (jhm_is hb) rfl (jsml_s rfl) rfl (ok_292 hb h6 e10) ?_
  refine ey_aload_n (cd_295 rfl) rfl ?_
  refine ey_aload_n (cd_295 rfl) rfl ?_
  refine ey_getf_i (z := (m9 76 34)) (cd_295 rfl) mt_295 rfl rfl rfl (jhm_gi hb 34) ?_
  refine ey_bipush (cd_295 rfl) (by decide) ?_
  refine ey_idiv (cd_295 rfl) (by decide) ?_
  obtain ⟨m11, e12, e⟩ := jbind e
  refine ey_cv (s0 := [jI (jdiv (m9 76 34) 8), jR (some 76)]) (s1 := []) (st' := []) (cd_295 rfl) mt_295 mt_292 rfl rfl rfl (jhm_is hb) rfl (jsml_s rfl) rfl (ok_292 hb h6 e12) ?_
  refine ey_aload_n (cd_295 rfl) rfl ?_
  refine ey_iload_n (cd_295 rfl) rfl ?_
  obtain ⟨m13, e14, e⟩ := jbind e
  refine ey_cv (s0 := [jI p0, jR (some 76)]) (s1 := []) (st' := []) (cd_295 rfl) mt_295 mt_292 rfl rfl rfl (jhm_is hb) rfl (jsml_s rfl) rfl (ok_292 hb h6 e14) ?_
  refine ey_aload_n (cd_295 rfl) rfl ?_
  refine ey_iload_n (cd_295 rfl) rfl ?_
  obtain ⟨m15, e16, e⟩ := jbind e
  refine ey_cv (s0 := [jI p1, jR (some 76)]) (s1 := []) (st' := []) (cd_295 rfl) mt_295 mt_292 rfl rfl rfl (jhm_is hb) rfl (jsml_s rfl) rfl (ok_292 hb h6 e16) ?_
  cases e
  exact ey_retv (cd_295 rfl) mt_295 rfl
theorem cd_296 {pc : Nat} {i : Instr × Nat} (h : mm_lk mm_c296 pc = some i) : mm_cd 296 pc = some i := h
theorem mt_296 : mm_MT 296 = (12, 5, some .int, 2, 0, []) := rfl
set_option maxRecDepth 100000 in
theorem jk_296_b166 {L : Nat} {xs : Nat → Int32} {b : jH} (hb : 152 ≤ b.1) (h6 : b.1 ≤ 1000000) {x1 : Int} {x2 : Int} {x3 : Int} {m : jM} {o : (Int × jM)} (e : jd_296_b166 x1 x2 x3 m = some o) : ∀ lv : jL, lv 0 = some (jR (some 76)) → lv 1 = some (jI x1) → lv 2 = some (jI x2) → lv 3 = some (jI x3) → ey (mm_xt L xs) 1 296 166 lv [] (jhm b m) (.inl (some (jcv (jI o.1)), jaH (jhm b o.2))) := by
  intro lv f0 f1 f2 f3
  unfold jd_296_b166 at e
  refine ey_aload_n (cd_296 rfl) f0 ?_
  refine ey_iload_n (cd_296 rfl) f3 ?_
  have K8 : ∀ lv : jL, lv 0 = some (jR (some 76)) → lv 1 = some (jI x1) → lv 2 = some (jI x2) → ey (mm_xt L xs) 1 296 176 lv [jI (if (jw x3) = 0 then 1 else 0), jR (some 76)] (jhm b m) (.inl (some (jcv (jI o.1)), jaH (jhm b o.2))) := by
    intro lv g0 g1 g2
    obtain ⟨m1, e2, e⟩ := jbind e
    refine ey_putf_i (cd_296 rfl) mt_296 rfl rfl rfl (jhm_pi' (k := 0) hb e2) ?_
    refine ey_aload_n (cd_296 rfl) g0 ?_
    refine ey_getf_i (z := (m1 76 0)) (cd_296 rfl) mt_296 rfl rfl rfl (jhm_gi hb 0) ?_
    by_cases q3 : (jw (m1 76 0)) ≤ 0
    · rw [if_pos q3] at e
      refine ey_zle (cd_296 rfl) rfl rfl q3 ?_
      refine ey_aload_n (cd_296 rfl) g0 ?_
      refine ey_getf_r (cd_296 rfl) mt_296 rfl rfl rfl (jhm_gr (q := 82) hb rfl) ?_
      refine ey_iload_n (cd_296 rfl) g1 ?_
      obtain ⟨v4, e5, e⟩ := jbind e
      refine ey_iald (cd_296 rfl) (jhm_ai hb h6 (by decide) rfl e5) ?_
      refine ey_istore (cd_296 rfl) mt_296 rfl ?_
      refine ey_aload_n (cd_296 rfl) g0 ?_
      refine ey_getf_r (cd_296 rfl) mt_296 rfl rfl rfl (jhm_gr (q := 82) hb rfl) ?_
      refine ey_iload_n (cd_296 rfl) g1 ?_
      refine ey_iload_n (cd_296 rfl) g2 ?_
      obtain ⟨m6, e7, e⟩ := jbind e
      refine ey_iast (cd_296 rfl) (jhm_ta hb (by decide) rfl e7) ?_
      refine ey_iload (cd_296 rfl) rfl ?_
      cases e
      exact ey_reti (cd_296 rfl) mt_296 rfl
    · rw [if_neg q3] at e
      refine ey_yle (cd_296 rfl) rfl rfl q3 ?_
      refine ey_iconst (cd_296 rfl) ?_
      cases e
      exact ey_reti (cd_296 rfl) mt_296 rfl
  by_cases q9 : (jw x3) = 0
  · refine ey_zeq (cd_296 rfl) rfl rfl q9 ?_
    refine ey_iconst (cd_296 rfl) ?_
    exact ey_rs (s0 := [jI 1, jR (some 76)]) (s1 := [jI (if (jw x3) = 0 then 1 else 0), jR (some 76)]) (by rw [show ((if (jw x3) = 0 then 1 else 0) : Int) = 1 from (if_pos q9)]) (K8 lv f0 f1 f2)
  · refine ey_yeq (cd_296 rfl) rfl rfl q9 ?_
    refine ey_iconst (cd_296 rfl) ?_
    refine ey_goto (cd_296 rfl) rfl ?_
    exact ey_rs (s0 := [jI 0, jR (some 76)]) (s1 := [jI (if (jw x3) = 0 then 1 else 0), jR (some 76)]) (by rw [show ((if (jw x3) = 0 then 1 else 0) : Int) = 0 from (if_neg q9)]) (K8 lv f0 f1 f2)
set_option maxRecDepth 100000 in
theorem ok_296 {L : Nat} {xs : Nat → Int32} {b : jH} (hb : 152 ≤ b.1) (h6 : b.1 ≤ 1000000) {p0 : Int} {p1 : Int} {m : jM} {o : (Int × jM)} (e : jd_296 p0 p1 m = some o) : mm_Runs (mm_xt L xs) 2 296 ([jR (some 76), jI p0, jI p1].map jcv) (jaH (jhm b m)) (.inl (some (jcv (jI o.1)), jaH (jhm b o.2))) := by
  refine ey_run0 _ mt_296 (jsl_s rfl) ?_
  unfold jd_296 at e
  refine ey_iconst (cd_296 rfl) ?_
  refine ey_istore_n (cd_296 rfl) mt_296 rfl ?_
  refine ey_iload_n (cd_296 rfl) rfl ?_
  have K10 : ∀ lv : jL, lv 0 = some (jR (some 76)) → lv 1 = some (jI p0) → lv 2 = some (jI p1) → lv 3 = some (jI (if (jw p0) = 0 then (jd_204 (jw p1) 1 60) else (if (jw p0) = 1 then (jd_204 (jw p1) 1 12) else (if (jw p0) = 2 then (jd_204 (jw p1) 0 2) else (if (jw p0) = 3 then (jd_204 (jw p1) 0 8) else (if (jw p0) = 4 then (jd_204 (jw p1) 1 31) else (if (jw p0) = 5 then (if (jw p1) = 0 then 1 else (if (jw (jd_204 (jw p1) 100 20000)) = 0 then 0 else 1)) else (if (jw p0) = 6 then (jd_204 (jw p1) 50 10000) else (if (jw p0) = 7 then (jd_204 (jw p1) 0 1) else 0))))))))) → ey (mm_xt L xs) 1 296 166 lv [] (jhm b m) (.inl (some (jcv (jI o.1)), jaH (jhm b o.2))) := by
    intro lv g0 g1 g2 g3
    exact jk_296_b166 hb h6 e lv g0 g1 g2 g3
  by_cases q11 : (jw p0) = 0
  · refine ey_tsw (cd_296 rfl) q11 (by decide) rfl rfl ?_
    refine ey_iload_n (cd_296 rfl) (jup_pi (lv := (jlf (jla 0 [jR (some 76), jI p0, jI p1]))) (j := 2) (v := jI 0) (z := p1) rfl) ?_
    refine ey_i2l (cd_296 rfl) ?_
    refine ey_lconst1 (cd_296 rfl) ?_
    refine ey_ldc2 (z := 60) (cd_296 rfl) mt_296 rfl (by decide) ?_
    refine ey_cs (s0 := [jJ 60, jJ 1, jJ (jw p1)]) (s1 := []) (st' := [jI (jd_204 (jw p1) 1 60)]) (cd_296 rfl) mt_296 mt_204 rfl (by decide) rfl rfl (jsml_s rfl) rfl (ok_204 ) ?_
    refine ey_istore_n (cd_296 rfl) mt_296 rfl ?_
    refine ey_goto (cd_296 rfl) rfl ?_
    exact K10 (jup (jup (jlf (jla 0 [jR (some 76), jI p0, jI p1])) 3 (jI 0)) 3 (jI (jd_204 (jw p1) 1 60))) rfl rfl (jup_pi (lv := (jup (jlf (jla 0 [jR (some 76), jI p0, jI p1])) 3 (jI 0))) (j := 2) (v := jI (jd_204 (jw p1) 1 60)) (z := p1) (jup_pi (lv := (jlf (jla 0 [jR (some 76), jI p0, jI p1]))) (j := 2) (v := jI 0) (z := p1) rfl)) (Eq.trans (show (jup (jup (jlf (jla 0 [jR (some 76), jI p0, jI p1])) 3 (jI 0)) 3 (jI (jd_204 (jw p1) 1 60))) 3 = some (jI (jd_204 (jw p1) 1 60)) from rfl) (congrArg (fun z => some (jI z)) (Eq.symm (if_pos q11))))
  · by_cases q12 : (jw p0) = 1
    · refine ey_tsw (cd_296 rfl) q12 (by decide) rfl rfl ?_
      refine ey_iload_n (cd_296 rfl) (jup_pi (lv := (jlf (jla 0 [jR (some 76), jI p0, jI p1]))) (j := 2) (v := jI 0) (z := p1) rfl) ?_
      refine ey_i2l (cd_296 rfl) ?_
      refine ey_lconst1 (cd_296 rfl) ?_
      refine ey_ldc2 (z := 12) (cd_296 rfl) mt_296 rfl (by decide) ?_
      refine ey_cs (s0 := [jJ 12, jJ 1, jJ (jw p1)]) (s1 := []) (st' := [jI (jd_204 (jw p1) 1 12)]) (cd_296 rfl) mt_296 mt_204 rfl (by decide) rfl rfl (jsml_s rfl) rfl (ok_204 ) ?_
      refine ey_istore_n (cd_296 rfl) mt_296 rfl ?_
      refine ey_goto (cd_296 rfl) rfl ?_
      exact K10 (jup (jup (jlf (jla 0 [jR (some 76), jI p0, jI p1])) 3 (jI 0)) 3 (jI (jd_204 (jw p1) 1 12))) rfl rfl (jup_pi (lv := (jup (jlf (jla 0 [jR (some 76), jI p0, jI p1])) 3 (jI 0))) (j := 2) (v := jI (jd_204 (jw p1) 1 12)) (z := p1) (jup_pi (lv := (jlf (jla 0 [jR (some 76), jI p0, jI p1]))) (j := 2) (v := jI 0) (z := p1) rfl)) (Eq.trans (show (jup (jup (jlf (jla 0 [jR (some 76), jI p0, jI p1])) 3 (jI 0)) 3 (jI (jd_204 (jw p1) 1 12))) 3 = some (jI (jd_204 (jw p1) 1 12)) from rfl) (congrArg (fun z => some (jI z)) (Eq.symm ((if_neg q11).trans (if_pos q12)))))
    · by_cases q13 : (jw p0) = 2
      · refine ey_tsw (cd_296 rfl) q13 (by decide) rfl rfl ?_
        refine ey_iload_n (cd_296 rfl) (jup_pi (lv := (jlf (jla 0 [jR (some 76), jI p0, jI p1]))) (j := 2) (v := jI 0) (z := p1) rfl) ?_
        refine ey_i2l (cd_296 rfl) ?_
        refine ey_lconst0 (cd_296 rfl) ?_
        refine ey_ldc2 (z := 2) (cd_296 rfl) mt_296 rfl (by decide) ?_
        refine ey_cs (s0 := [jJ 2, jJ 0, jJ (jw p1)]) (s1 := []) (st' := [jI (jd_204 (jw p1) 0 2)]) (cd_296 rfl) mt_296 mt_204 rfl (by decide) rfl rfl (jsml_s rfl) rfl (ok_204 ) ?_
        refine ey_istore_n (cd_296 rfl) mt_296 rfl ?_
        refine ey_goto (cd_296 rfl) rfl ?_
        exact K10 (jup (jup (jlf (jla 0 [jR (some 76), jI p0, jI p1])) 3 (jI 0)) 3 (jI (jd_204 (jw p1) 0 2))) rfl rfl (jup_pi (lv := (jup (jlf (jla 0 [jR (some 76), jI p0, jI p1])) 3 (jI 0))) (j := 2) (v := jI (jd_204 (jw p1) 0 2)) (z := p1) (jup_pi (lv := (jlf (jla 0 [jR (some 76), jI p0, jI p1]))) (j := 2) (v := jI 0) (z := p1) rfl)) (Eq.trans (show (jup (jup (jlf (jla 0 [jR (some 76), jI p0, jI p1])) 3 (jI 0)) 3 (jI (jd_204 (jw p1) 0 2))) 3 = some (jI (jd_204 (jw p1) 0 2)) from rfl) (congrArg (fun z => some (jI z)) (Eq.symm ((if_neg q11).trans ((if_neg q12).trans (if_pos q13))))))
      · by_cases q14 : (jw p0) = 3
        · refine ey_tsw (cd_296 rfl) q14 (by decide) rfl rfl ?_
          refine ey_iload_n (cd_296 rfl) (jup_pi (lv := (jlf (jla 0 [jR (some 76), jI p0, jI p1]))) (j := 2) (v := jI 0) (z := p1) rfl) ?_
          refine ey_i2l (cd_296 rfl) ?_
          refine ey_lconst0 (cd_296 rfl) ?_
          refine ey_ldc2 (z := 8) (cd_296 rfl) mt_296 rfl (by decide) ?_
          refine ey_cs (s0 := [jJ 8, jJ 0, jJ (jw p1)]) (s1 := []) (st' := [jI (jd_204 (jw p1) 0 8)]) (cd_296 rfl) mt_296 mt_204 rfl (by decide) rfl rfl (jsml_s rfl) rfl (ok_204 ) ?_
          refine ey_istore_n (cd_296 rfl) mt_296 rfl ?_
          refine ey_goto (cd_296 rfl) rfl ?_
          exact K10 (jup (jup (jlf (jla 0 [jR (some 76), jI p0, jI p1])) 3 (jI 0)) 3 (jI (jd_204 (jw p1) 0 8))) rfl rfl (jup_pi (lv := (jup (jlf (jla 0 [jR (some 76), jI p0, jI p1])) 3 (jI 0))) (j := 2) (v := jI (jd_204 (jw p1) 0 8)) (z := p1) (jup_pi (lv := (jlf (jla 0 [jR (some 76), jI p0, jI p1]))) (j := 2) (v := jI 0) (z := p1) rfl)) (Eq.trans (show (jup (jup (jlf (jla 0 [jR (some 76), jI p0, jI p1])) 3 (jI 0)) 3 (jI (jd_204 (jw p1) 0 8))) 3 = some (jI (jd_204 (jw p1) 0 8)) from rfl) (congrArg (fun z => some (jI z)) (Eq.symm ((if_neg q11).trans ((if_neg q12).trans ((if_neg q13).trans (if_pos q14)))))))
        · by_cases q15 : (jw p0) = 4
          · refine ey_tsw (cd_296 rfl) q15 (by decide) rfl rfl ?_
            refine ey_iload_n (cd_296 rfl) (jup_pi (lv := (jlf (jla 0 [jR (some 76), jI p0, jI p1]))) (j := 2) (v := jI 0) (z := p1) rfl) ?_
            refine ey_i2l (cd_296 rfl) ?_
            refine ey_lconst1 (cd_296 rfl) ?_
            refine ey_ldc2 (z := 31) (cd_296 rfl) mt_296 rfl (by decide) ?_
            refine ey_cs (s0 := [jJ 31, jJ 1, jJ (jw p1)]) (s1 := []) (st' := [jI (jd_204 (jw p1) 1 31)]) (cd_296 rfl) mt_296 mt_204 rfl (by decide) rfl rfl (jsml_s rfl) rfl (ok_204 ) ?_
            refine ey_istore_n (cd_296 rfl) mt_296 rfl ?_
            refine ey_goto (cd_296 rfl) rfl ?_
            exact K10 (jup (jup (jlf (jla 0 [jR (some 76), jI p0, jI p1])) 3 (jI 0)) 3 (jI (jd_204 (jw p1) 1 31))) rfl rfl (jup_pi (lv := (jup (jlf (jla 0 [jR (some 76), jI p0, jI p1])) 3 (jI 0))) (j := 2) (v := jI (jd_204 (jw p1) 1 31)) (z := p1) (jup_pi (lv := (jlf (jla 0 [jR (some 76), jI p0, jI p1]))) (j := 2) (v := jI 0) (z := p1) rfl)) (Eq.trans (show (jup (jup (jlf (jla 0 [jR (some 76), jI p0, jI p1])) 3 (jI 0)) 3 (jI (jd_204 (jw p1) 1 31))) 3 = some (jI (jd_204 (jw p1) 1 31)) from rfl) (congrArg (fun z => some (jI z)) (Eq.symm ((if_neg q11).trans ((if_neg q12).trans ((if_neg q13).trans ((if_neg q14).trans (if_pos q15))))))))
          · by_cases q16 : (jw p0) = 5
            · refine ey_tsw (cd_296 rfl) q16 (by decide) rfl rfl ?_
              refine ey_iload_n (cd_296 rfl) (jup_pi (lv := (jlf (jla 0 [jR (some 76), jI p0, jI p1]))) (j := 2) (v := jI 0) (z := p1) rfl) ?_
              by_cases q17 : (jw p1) = 0
              · refine ey_zeq (cd_296 rfl) rfl rfl q17 ?_
                refine ey_iconst (cd_296 rfl) ?_
                refine ey_goto (cd_296 rfl) rfl ?_
                refine ey_istore_n (cd_296 rfl) mt_296 rfl ?_
                refine ey_goto (cd_296 rfl) rfl ?_
                exact K10 (jup (jup (jlf (jla 0 [jR (some 76), jI p0, jI p1])) 3 (jI 0)) 3 (jI 1)) rfl rfl (jup_pi (lv := (jup (jlf (jla 0 [jR (some 76), jI p0, jI p1])) 3 (jI 0))) (j := 2) (v := jI 1) (z := p1) (jup_pi (lv := (jlf (jla 0 [jR (some 76), jI p0, jI p1]))) (j := 2) (v := jI 0) (z := p1) rfl)) (Eq.trans (show (jup (jup (jlf (jla 0 [jR (some 76), jI p0, jI p1])) 3 (jI 0)) 3 (jI 1)) 3 = some (jI 1) from rfl) (congrArg (fun z => some (jI z)) (Eq.symm ((if_neg q11).trans ((if_neg q12).trans ((if_neg q13).trans ((if_neg q14).trans ((if_neg q15).trans ((if_pos q16).trans (if_pos q17))))))))))
              · refine ey_yeq (cd_296 rfl) rfl rfl q17 ?_
                refine ey_iload_n (cd_296 rfl) (jup_pi (lv := (jlf (jla 0 [jR (some 76), jI p0, jI p1]))) (j := 2) (v := jI 0) (z := p1) rfl) ?_
                refine ey_i2l (cd_296 rfl) ?_
                refine ey_ldc2 (z := 100) (cd_296 rfl) mt_296 rfl (by decide) ?_
                refine ey_ldc2 (z := 20000) (cd_296 rfl) mt_296 rfl (by decide) ?_
                refine ey_cs (s0 := [jJ 20000, jJ 100, jJ (jw p1)]) (s1 := []) (st' := [jI (jd_204 (jw p1) 100 20000)]) (cd_296 rfl) mt_296 mt_204 rfl (by decide) rfl rfl (jsml_s rfl) rfl (ok_204 ) ?_
                by_cases q18 : (jw (jd_204 (jw p1) 100 20000)) = 0
                · refine ey_zeq (cd_296 rfl) rfl rfl q18 ?_
                  refine ey_iconst (cd_296 rfl) ?_
                  refine ey_istore_n (cd_296 rfl) mt_296 rfl ?_
                  refine ey_goto (cd_296 rfl) rfl ?_
                  exact K10 (jup (jup (jlf (jla 0 [jR (some 76), jI p0, jI p1])) 3 (jI 0)) 3 (jI 0)) rfl rfl (jup_pi (lv := (jup (jlf (jla 0 [jR (some 76), jI p0, jI p1])) 3 (jI 0))) (j := 2) (v := jI 0) (z := p1) (jup_pi (lv := (jlf (jla 0 [jR (some 76), jI p0, jI p1]))) (j := 2) (v := jI 0) (z := p1) rfl)) (Eq.trans (show (jup (jup (jlf (jla 0 [jR (some 76), jI p0, jI p1])) 3 (jI 0)) 3 (jI 0)) 3 = some (jI 0) from rfl) (congrArg (fun z => some (jI z)) (Eq.symm ((if_neg q11).trans ((if_neg q12).trans ((if_neg q13).trans ((if_neg q14).trans ((if_neg q15).trans ((if_pos q16).trans ((if_neg q17).trans (if_pos q18)))))))))))
                · refine ey_yeq (cd_296 rfl) rfl rfl q18 ?_
                  refine ey_iconst (cd_296 rfl) ?_
                  refine ey_goto (cd_296 rfl) rfl ?_
                  refine ey_istore_n (cd_296 rfl) mt_296 rfl ?_
                  refine ey_goto (cd_296 rfl) rfl ?_
                  exact K10 (jup (jup (jlf (jla 0 [jR (some 76), jI p0, jI p1])) 3 (jI 0)) 3 (jI 1)) rfl rfl (jup_pi (lv := (jup (jlf (jla 0 [jR (some 76), jI p0, jI p1])) 3 (jI 0))) (j := 2) (v := jI 1) (z := p1) (jup_pi (lv := (jlf (jla 0 [jR (some 76), jI p0, jI p1]))) (j := 2) (v := jI 0) (z := p1) rfl)) (Eq.trans (show (jup (jup (jlf (jla 0 [jR (some 76), jI p0, jI p1])) 3 (jI 0)) 3 (jI 1)) 3 = some (jI 1) from rfl) (congrArg (fun z => some (jI z)) (Eq.symm ((if_neg q11).trans ((if_neg q12).trans ((if_neg q13).trans ((if_neg q14).trans ((if_neg q15).trans ((if_pos q16).trans ((if_neg q17).trans (if_neg q18)))))))))))
            · by_cases q19 : (jw p0) = 6
              · refine ey_tsw (cd_296 rfl) q19 (by decide) rfl rfl ?_
                refine ey_iload_n (cd_296 rfl) (jup_pi (lv := (jlf (jla 0 [jR (some 76), jI p0, jI p1]))) (j := 2) (v := jI 0) (z := p1) rfl) ?_
                refine ey_i2l (cd_296 rfl) ?_
                refine ey_ldc2 (z := 50) (cd_296 rfl) mt_296 rfl (by decide) ?_
                refine ey_ldc2 (z := 10000) (cd_296 rfl) mt_296 rfl (by decide) ?_
                refine ey_cs (s0 := [jJ 10000, jJ 50, jJ (jw p1)]) (s1 := []) (st' := [jI (jd_204 (jw p1) 50 10000)]) (cd_296 rfl) mt_296 mt_204 rfl (by decide) rfl rfl (jsml_s rfl) rfl (ok_204 ) ?_
                refine ey_istore_n (cd_296 rfl) mt_296 rfl ?_
                refine ey_goto (cd_296 rfl) rfl ?_
                exact K10 (jup (jup (jlf (jla 0 [jR (some 76), jI p0, jI p1])) 3 (jI 0)) 3 (jI (jd_204 (jw p1) 50 10000))) rfl rfl (jup_pi (lv := (jup (jlf (jla 0 [jR (some 76), jI p0, jI p1])) 3 (jI 0))) (j := 2) (v := jI (jd_204 (jw p1) 50 10000)) (z := p1) (jup_pi (lv := (jlf (jla 0 [jR (some 76), jI p0, jI p1]))) (j := 2) (v := jI 0) (z := p1) rfl)) (Eq.trans (show (jup (jup (jlf (jla 0 [jR (some 76), jI p0, jI p1])) 3 (jI 0)) 3 (jI (jd_204 (jw p1) 50 10000))) 3 = some (jI (jd_204 (jw p1) 50 10000)) from rfl) (congrArg (fun z => some (jI z)) (Eq.symm ((if_neg q11).trans ((if_neg q12).trans ((if_neg q13).trans ((if_neg q14).trans ((if_neg q15).trans ((if_neg q16).trans (if_pos q19))))))))))
              · by_cases q20 : (jw p0) = 7
                · refine ey_tsw (cd_296 rfl) q20 (by decide) rfl rfl ?_
                  refine ey_iload_n (cd_296 rfl) (jup_pi (lv := (jlf (jla 0 [jR (some 76), jI p0, jI p1]))) (j := 2) (v := jI 0) (z := p1) rfl) ?_
                  refine ey_i2l (cd_296 rfl) ?_
                  refine ey_lconst0 (cd_296 rfl) ?_
                  refine ey_lconst1 (cd_296 rfl) ?_
                  refine ey_cs (s0 := [jJ 1, jJ 0, jJ (jw p1)]) (s1 := []) (st' := [jI (jd_204 (jw p1) 0 1)]) (cd_296 rfl) mt_296 mt_204 rfl (by decide) rfl rfl (jsml_s rfl) rfl (ok_204 ) ?_
                  refine ey_istore_n (cd_296 rfl) mt_296 rfl ?_
                  refine ey_goto (cd_296 rfl) rfl ?_
                  exact K10 (jup (jup (jlf (jla 0 [jR (some 76), jI p0, jI p1])) 3 (jI 0)) 3 (jI (jd_204 (jw p1) 0 1))) rfl rfl (jup_pi (lv := (jup (jlf (jla 0 [jR (some 76), jI p0, jI p1])) 3 (jI 0))) (j := 2) (v := jI (jd_204 (jw p1) 0 1)) (z := p1) (jup_pi (lv := (jlf (jla 0 [jR (some 76), jI p0, jI p1]))) (j := 2) (v := jI 0) (z := p1) rfl)) (Eq.trans (show (jup (jup (jlf (jla 0 [jR (some 76), jI p0, jI p1])) 3 (jI 0)) 3 (jI (jd_204 (jw p1) 0 1))) 3 = some (jI (jd_204 (jw p1) 0 1)) from rfl) (congrArg (fun z => some (jI z)) (Eq.symm ((if_neg q11).trans ((if_neg q12).trans ((if_neg q13).trans ((if_neg q14).trans ((if_neg q15).trans ((if_neg q16).trans ((if_neg q19).trans (if_pos q20)))))))))))
                · refine ey_tsw_d (cd_296 rfl) (by omega) rfl ?_
                  exact K10 (jup (jlf (jla 0 [jR (some 76), jI p0, jI p1])) 3 (jI 0)) rfl rfl (jup_pi (lv := (jlf (jla 0 [jR (some 76), jI p0, jI p1]))) (j := 2) (v := jI 0) (z := p1) rfl) (Eq.trans (show (jup (jlf (jla 0 [jR (some 76), jI p0, jI p1])) 3 (jI 0)) 3 = some (jI 0) from rfl) (congrArg (fun z => some (jI z)) (Eq.symm ((if_neg q11).trans ((if_neg q12).trans ((if_neg q13).trans ((if_neg q14).trans ((if_neg q15).trans ((if_neg q16).trans ((if_neg q19).trans (if_neg q20)))))))))))
theorem cd_297 {pc : Nat} {i : Instr × Nat} (h : mm_lk mm_c297 pc = some i) : mm_cd 297 pc = some i := h
theorem mt_297 : mm_MT 297 = (12, 3, some .int, 1, 0, []) := rfl
set_option maxRecDepth 100000 in
theorem jk_297_s98 {L : Nat} {xs : Nat → Int32} {b : jH} (hb : 152 ≤ b.1) (h6 : b.1 ≤ 1000000) {x1 : Int} {x2 : Int} {m : jM} {o : ((Int × jM) ⊕ jM)} {r : mm_R} (e : jd_297_s98 x1 x2 m = some o) (K : jsm (fun s => (∀ lv : jL, lv 0 = some (jR (some 76)) → lv 1 = some (jI x1) → lv 2 = some (jI s.1) → ey (mm_xt L xs) 2 297 98 lv [] (jhm b s.2) r)) (fun x => (∀ lv : jL, lv 0 = some (jR (some 76)) → ey (mm_xt L xs) 2 297 138 lv [] (jhm b x) r)) o) : ∀ lv : jL, lv 0 = some (jR (some 76)) → lv 1 = some (jI x1) → lv 2 = some (jI x2) → ey (mm_xt L xs) 2 297 98 lv [] (jhm b m) r := by
  intro lv f0 f1 f2
  unfold jd_297_s98 at e
  refine ey_iload_n (cd_297 rfl) f2 ?_
  refine ey_sipush (cd_297 rfl) (by decide) ?_
  by_cases q13 : 864 ≤ (jw x2)
  · rw [if_pos q13] at e
    refine ey_cge (cd_297 rfl) rfl rfl (show jw 864 = 864 from by decide) q13 ?_
    cases e
    exact K lv f0
  · rw [if_neg q13] at e
    refine ey_nge (cd_297 rfl) rfl rfl (show jw 864 = 864 from by decide) q13 ?_
    refine ey_aload_n (cd_297 rfl) f0 ?_
    refine ey_getf_r (cd_297 rfl) mt_297 rfl rfl rfl (jhm_gr (q := 81) hb rfl) ?_
    refine ey_sipush (cd_297 rfl) (by decide) ?_
    refine ey_aload_n (cd_297 rfl) f0 ?_
    refine ey_getf_i (z := (m 76 7)) (cd_297 rfl) mt_297 rfl rfl rfl (jhm_gi hb 7) ?_
    refine ey_imul (cd_297 rfl) ?_
    refine ey_iload_n (cd_297 rfl) f2 ?_
    refine ey_iadd (cd_297 rfl) ?_
    refine ey_aload_n (cd_297 rfl) f0 ?_
    refine ey_getf_r (cd_297 rfl) mt_297 rfl rfl rfl (jhm_gr (q := 79) hb rfl) ?_
    refine ey_sipush (cd_297 rfl) (by decide) ?_
    refine ey_iload_n (cd_297 rfl) f1 ?_
    refine ey_imul (cd_297 rfl) ?_
    refine ey_iload_n (cd_297 rfl) f2 ?_
    refine ey_iadd (cd_297 rfl) ?_
    obtain ⟨v14, e15, e⟩ := jbind e
    refine ey_iald (cd_297 rfl) (jhm_ai hb h6 (by decide) rfl e15) ?_
    obtain ⟨m16, e17, e⟩ := jbind e
    refine ey_iast (cd_297 rfl) (jhm_ta hb (by decide) rfl e17) ?_
    refine ey_iinc (cd_297 rfl) mt_297 rfl f2 ?_
    refine ey_goto (cd_297 rfl) rfl ?_
    cases e
    exact K (jup lv 2 (jI (x2 + 1))) f0 (jup_pi (lv := lv) (j := 1) (v := jI (x2 + 1)) (z := x1) f1) rfl
theorem jk_297_l98 {L : Nat} {xs : Nat → Int32} {b : jH} (hb : 152 ≤ b.1) (h6 : b.1 ≤ 1000000) {x1 : Int} {x2 : Int} {m : jM} {x : jM} {r : mm_R} (e : jd_297_l98 x1 x2 m = some x) (K : (∀ lv : jL, lv 0 = some (jR (some 76)) → ey (mm_xt L xs) 2 297 138 lv [] (jhm b x) r)) : ∀ lv : jL, lv 0 = some (jR (some 76)) → lv 1 = some (jI x1) → lv 2 = some (jI x2) → ey (mm_xt L xs) 2 297 98 lv [] (jhm b m) r := by
  unfold jd_297_l98 at e
  exact jlp_ok2 (P := fun s => ∀ lv : jL, lv 0 = some (jR (some 76)) → lv 1 = some (jI x1) → lv 2 = some (jI s.1) → ey (mm_xt L xs) 2 297 98 lv [] (jhm b s.2) r) (Q := fun x => (∀ lv : jL, lv 0 = some (jR (some 76)) → ey (mm_xt L xs) 2 297 138 lv [] (jhm b x) r)) (fun s q hq hk => jk_297_s98 hb h6 hq hk) jfu _ x e K
set_option maxRecDepth 100000 in
theorem jk_297_b64 {L : Nat} {xs : Nat → Int32} {b : jH} (hb : 152 ≤ b.1) (h6 : b.1 ≤ 1000000) {x1 : Int} {y0 : Int} {m : jM} {o : (Int × jM)} (e : jd_297_b64 x1 y0 m = some o) : ∀ lv : jL, lv 0 = some (jR (some 76)) → lv 1 = some (jI x1) → ey (mm_xt L xs) 2 297 64 lv [jI y0, jR (some 76)] (jhm b m) (.inl (some (jcv (jI o.1)), jaH (jhm b o.2))) := by
  intro lv f0 f1
  unfold jd_297_b64 at e
  obtain ⟨m2, e3, e⟩ := jbind e
  refine ey_putf_i (cd_297 rfl) mt_297 rfl rfl rfl (jhm_pi' (k := 0) hb e3) ?_
  refine ey_aload_n (cd_297 rfl) f0 ?_
  refine ey_getf_i (z := (m2 76 0)) (cd_297 rfl) mt_297 rfl rfl rfl (jhm_gi hb 0) ?_
  by_cases q4 : (jw (m2 76 0)) ≤ 0
  · rw [if_pos q4] at e
    refine ey_zle (cd_297 rfl) rfl rfl q4 ?_
    refine ey_aload_n (cd_297 rfl) f0 ?_
    refine ey_aload_n (cd_297 rfl) f0 ?_
    refine ey_getf_r (cd_297 rfl) mt_297 rfl rfl rfl (jhm_gr (q := 77) hb rfl) ?_
    refine ey_iload_n (cd_297 rfl) f1 ?_
    obtain ⟨v5, e6, e⟩ := jbind e
    refine ey_iald (cd_297 rfl) (jhm_ai hb h6 (by decide) rfl e6) ?_
    obtain ⟨m7, e8, e⟩ := jbind e
    refine ey_putf_i (cd_297 rfl) mt_297 rfl rfl rfl (jhm_pi' (k := 8) hb e8) ?_
    refine ey_aload_n (cd_297 rfl) f0 ?_
    refine ey_aload_n (cd_297 rfl) f0 ?_
    refine ey_getf_r (cd_297 rfl) mt_297 rfl rfl rfl (jhm_gr (q := 78) hb rfl) ?_
    refine ey_iload_n (cd_297 rfl) f1 ?_
    obtain ⟨v9, e10, e⟩ := jbind e
    refine ey_iald (cd_297 rfl) (jhm_ai hb h6 (by decide) rfl e10) ?_
    obtain ⟨m11, e12, e⟩ := jbind e
    refine ey_putf_i (cd_297 rfl) mt_297 rfl rfl rfl (jhm_pi' (k := 9) hb e12) ?_
    refine ey_iconst (cd_297 rfl) ?_
    refine ey_istore_n (cd_297 rfl) mt_297 rfl ?_
    obtain ⟨x18, e19, e⟩ := jbind e
    refine jk_297_l98 hb h6 e19 ?_ (jup lv 2 (jI 0)) f0 (jup_pi (lv := lv) (j := 1) (v := jI 0) (z := x1) f1) rfl
    intro lv g0
    refine ey_aload_n (cd_297 rfl) g0 ?_
    refine ey_dup (cd_297 rfl) rfl ?_
    refine ey_getf_i (z := (x18 76 7)) (cd_297 rfl) mt_297 rfl rfl rfl (jhm_gi hb 7) ?_
    refine ey_iconst (cd_297 rfl) ?_
    refine ey_iadd (cd_297 rfl) ?_
    obtain ⟨m20, e21, e⟩ := jbind e
    refine ey_putf_i (cd_297 rfl) mt_297 rfl rfl rfl (jhm_pi' (k := 7) hb e21) ?_
    refine ey_aload_n (cd_297 rfl) g0 ?_
    refine ey_getf_i (z := (m20 76 7)) (cd_297 rfl) mt_297 rfl rfl rfl (jhm_gi hb 7) ?_
    cases e
    exact ey_reti (cd_297 rfl) mt_297 rfl
  · rw [if_neg q4] at e
    refine ey_yle (cd_297 rfl) rfl rfl q4 ?_
    refine ey_iconst (cd_297 rfl) ?_
    cases e
    exact ey_reti (cd_297 rfl) mt_297 rfl
set_option maxRecDepth 100000 in
theorem ok_297 {L : Nat} {xs : Nat → Int32} {b : jH} (hb : 152 ≤ b.1) (h6 : b.1 ≤ 1000000) {p0 : Int} {m : jM} {o : (Int × jM)} (e : jd_297 p0 m = some o) : mm_Runs (mm_xt L xs) 3 297 ([jR (some 76), jI p0].map jcv) (jaH (jhm b m)) (.inl (some (jcv (jI o.1)), jaH (jhm b o.2))) := by
  refine ey_run0 _ mt_297 (jsl_s rfl) ?_
  unfold jd_297 at e
  refine ey_aload_n (cd_297 rfl) rfl ?_
  refine ey_aload_n (cd_297 rfl) rfl ?_
  refine ey_iload_n (cd_297 rfl) rfl ?_
  refine ey_cv (s0 := [jI p0, jR (some 76), jR (some 76)]) (s1 := [jR (some 76)]) (st' := [jI (jd_210 p0 m), jR (some 76)]) (cd_297 rfl) mt_297 mt_210 rfl rfl rfl (jhm_is hb) rfl (jsml_s rfl) rfl (ok_210 hb h6 ) ?_
  by_cases q1 : (jw (jd_210 p0 m)) = 0
  · rw [if_pos q1] at e
    refine ey_yne (cd_297 rfl) rfl rfl (fun w => w q1) ?_
    refine ey_iconst (cd_297 rfl) ?_
    refine ey_goto (cd_297 rfl) rfl ?_
    exact jk_297_b64 hb h6 e (jlf (jla 0 [jR (some 76), jI p0])) rfl rfl
  · rw [if_neg q1] at e
    refine ey_zne (cd_297 rfl) rfl rfl q1 ?_
    refine ey_aload_n (cd_297 rfl) rfl ?_
    refine ey_getf_i (z := (m 76 7)) (cd_297 rfl) mt_297 rfl rfl rfl (jhm_gi hb 7) ?_
    by_cases q22 : (jw (m 76 7)) ≤ 0
    · rw [if_pos q22] at e
      refine ey_zle (cd_297 rfl) rfl rfl q22 ?_
      refine ey_aload_n (cd_297 rfl) rfl ?_
      refine ey_getf_i (z := (m 76 7)) (cd_297 rfl) mt_297 rfl rfl rfl (jhm_gi hb 7) ?_
      refine ey_bipush (cd_297 rfl) (by decide) ?_
      have K23 : ∀ lv : jL, lv 0 = some (jR (some 76)) → lv 1 = some (jI p0) → ey (mm_xt L xs) 2 297 64 lv [jI (if (jw (m 76 7)) = 12 then 3 else 0), jR (some 76)] (jhm b m) (.inl (some (jcv (jI o.1)), jaH (jhm b o.2))) := by
        intro lv g0 g1
        exact jk_297_b64 hb h6 e lv g0 g1
      by_cases q24 : (jw (m 76 7)) = 12
      · refine ey_nne (cd_297 rfl) rfl rfl (show jw 12 = 12 from by decide) (fun w => w q24) ?_
        refine ey_iconst (cd_297 rfl) ?_
        refine ey_goto (cd_297 rfl) rfl ?_
        exact ey_rs (s0 := [jI 3, jR (some 76)]) (s1 := [jI (if (jw (m 76 7)) = 12 then 3 else 0), jR (some 76)]) (by rw [show ((if (jw (m 76 7)) = 12 then 3 else 0) : Int) = 3 from (if_pos q24)]) (K23 (jlf (jla 0 [jR (some 76), jI p0])) rfl rfl)
      · refine ey_cne (cd_297 rfl) rfl rfl (show jw 12 = 12 from by decide) q24 ?_
        refine ey_iconst (cd_297 rfl) ?_
        exact ey_rs (s0 := [jI 0, jR (some 76)]) (s1 := [jI (if (jw (m 76 7)) = 12 then 3 else 0), jR (some 76)]) (by rw [show ((if (jw (m 76 7)) = 12 then 3 else 0) : Int) = 0 from (if_neg q24)]) (K23 (jlf (jla 0 [jR (some 76), jI p0])) rfl rfl)
    · rw [if_neg q22] at e
      refine ey_yle (cd_297 rfl) rfl rfl q22 ?_
      refine ey_aload_n (cd_297 rfl) rfl ?_
      refine ey_getf_r (cd_297 rfl) mt_297 rfl rfl rfl (jhm_gr (q := 77) hb rfl) ?_
      refine ey_iload_n (cd_297 rfl) rfl ?_
      obtain ⟨v25, e26, e⟩ := jbind e
      refine ey_iald (cd_297 rfl) (jhm_ai hb h6 (by decide) rfl e26) ?_
      refine ey_aload_n (cd_297 rfl) rfl ?_
      refine ey_getf_i (z := (m 76 8)) (cd_297 rfl) mt_297 rfl rfl rfl (jhm_gi hb 8) ?_
      by_cases q27 : (jw v25) = (jw (m 76 8))
      · rw [if_pos q27] at e
        refine ey_nne (cd_297 rfl) rfl rfl rfl (fun w => w q27) ?_
        refine ey_aload_n (cd_297 rfl) rfl ?_
        refine ey_getf_r (cd_297 rfl) mt_297 rfl rfl rfl (jhm_gr (q := 78) hb rfl) ?_
        refine ey_iload_n (cd_297 rfl) rfl ?_
        obtain ⟨v28, e29, e⟩ := jbind e
        refine ey_iald (cd_297 rfl) (jhm_ai hb h6 (by decide) rfl e29) ?_
        refine ey_aload_n (cd_297 rfl) rfl ?_
        refine ey_getf_i (z := (m 76 9)) (cd_297 rfl) mt_297 rfl rfl rfl (jhm_gi hb 9) ?_
        have K30 : ∀ lv : jL, lv 0 = some (jR (some 76)) → lv 1 = some (jI p0) → ey (mm_xt L xs) 2 297 64 lv [jI (if (jw v28) = (jw (m 76 9)) then (if (jw (m 76 7)) = 12 then 3 else 0) else 2), jR (some 76)] (jhm b m) (.inl (some (jcv (jI o.1)), jaH (jhm b o.2))) := by
          intro lv g0 g1
          exact jk_297_b64 hb h6 e lv g0 g1
        by_cases q31 : (jw v28) = (jw (m 76 9))
        · refine ey_ceq (cd_297 rfl) rfl rfl rfl q31 ?_
          refine ey_aload_n (cd_297 rfl) rfl ?_
          refine ey_getf_i (z := (m 76 7)) (cd_297 rfl) mt_297 rfl rfl rfl (jhm_gi hb 7) ?_
          refine ey_bipush (cd_297 rfl) (by decide) ?_
          by_cases q32 : (jw (m 76 7)) = 12
          · refine ey_nne (cd_297 rfl) rfl rfl (show jw 12 = 12 from by decide) (fun w => w q32) ?_
            refine ey_iconst (cd_297 rfl) ?_
            refine ey_goto (cd_297 rfl) rfl ?_
            exact ey_rs (s0 := [jI 3, jR (some 76)]) (s1 := [jI (if (jw v28) = (jw (m 76 9)) then (if (jw (m 76 7)) = 12 then 3 else 0) else 2), jR (some 76)]) (by rw [show ((if (jw v28) = (jw (m 76 9)) then (if (jw (m 76 7)) = 12 then 3 else 0) else 2) : Int) = 3 from ((if_pos q31).trans (if_pos q32))]) (K30 (jlf (jla 0 [jR (some 76), jI p0])) rfl rfl)
          · refine ey_cne (cd_297 rfl) rfl rfl (show jw 12 = 12 from by decide) q32 ?_
            refine ey_iconst (cd_297 rfl) ?_
            exact ey_rs (s0 := [jI 0, jR (some 76)]) (s1 := [jI (if (jw v28) = (jw (m 76 9)) then (if (jw (m 76 7)) = 12 then 3 else 0) else 2), jR (some 76)]) (by rw [show ((if (jw v28) = (jw (m 76 9)) then (if (jw (m 76 7)) = 12 then 3 else 0) else 2) : Int) = 0 from ((if_pos q31).trans (if_neg q32))]) (K30 (jlf (jla 0 [jR (some 76), jI p0])) rfl rfl)
        · refine ey_neq (cd_297 rfl) rfl rfl rfl q31 ?_
          refine ey_iconst (cd_297 rfl) ?_
          refine ey_goto (cd_297 rfl) rfl ?_
          exact ey_rs (s0 := [jI 2, jR (some 76)]) (s1 := [jI (if (jw v28) = (jw (m 76 9)) then (if (jw (m 76 7)) = 12 then 3 else 0) else 2), jR (some 76)]) (by rw [show ((if (jw v28) = (jw (m 76 9)) then (if (jw (m 76 7)) = 12 then 3 else 0) else 2) : Int) = 2 from (if_neg q31)]) (K30 (jlf (jla 0 [jR (some 76), jI p0])) rfl rfl)
      · rw [if_neg q27] at e
        refine ey_cne (cd_297 rfl) rfl rfl rfl q27 ?_
        refine ey_iconst (cd_297 rfl) ?_
        refine ey_goto (cd_297 rfl) rfl ?_
        exact jk_297_b64 hb h6 e (jlf (jla 0 [jR (some 76), jI p0])) rfl rfl
theorem cd_298 {pc : Nat} {i : Instr × Nat} (h : mm_lk mm_c298 pc = some i) : mm_cd 298 pc = some i := h
theorem mt_298 : mm_MT 298 = (12, 2, some .int, 0, 0, []) := rfl
set_option maxRecDepth 100000 in
theorem ok_298 {L : Nat} {xs : Nat → Int32} {b : jH} (hb : 152 ≤ b.1) (h6 : b.1 ≤ 1000000)  {m : jM} {o : (Int × jM)} (e : jd_298  m = some o) : mm_Runs (mm_xt L xs) 1 298 ([jR (some 76)].map jcv) (jaH (jhm b m)) (.inl (some (jcv (jI o.1)), jaH (jhm b o.2))) := by
  refine ey_run0 _ mt_298 (jsl_s rfl) ?_
  unfold jd_298 at e
  refine ey_aload_n (cd_298 rfl) rfl ?_
  refine ey_iconst (cd_298 rfl) ?_
  obtain ⟨m1, e2, e⟩ := jbind e
  refine ey_putf_i (cd_298 rfl) mt_298 rfl rfl rfl (jhm_pi' (k := 0) hb e2) ?_
  refine ey_aload_n (cd_298 rfl) rfl ?_
  refine ey_getf_i (z := (m1 76 7)) (cd_298 rfl) mt_298 rfl rfl rfl (jhm_gi hb 7) ?_
  refine ey_istore_n (cd_298 rfl) mt_298 rfl ?_
  refine ey_aload_n (cd_298 rfl) (jup_pr (lv := (jlf (jla 0 [jR (some 76)]))) (j := 0) (v := jI (m1 76 7)) (z := (some 76)) rfl) ?_
  refine ey_iconst (cd_298 rfl) ?_
  obtain ⟨m3, e4, e⟩ := jbind e
  refine ey_putf_i (cd_298 rfl) mt_298 rfl rfl rfl (jhm_pi' (k := 7) hb e4) ?_
  refine ey_iload_n (cd_298 rfl) rfl ?_
  cases e
  exact ey_reti (cd_298 rfl) mt_298 rfl
theorem cd_299 {pc : Nat} {i : Instr × Nat} (h : mm_lk mm_c299 pc = some i) : mm_cd 299 pc = some i := h
theorem mt_299 : mm_MT 299 = (12, 5, none, 0, 0, []) := rfl
set_option maxRecDepth 100000 in
theorem jk_299_b114 {L : Nat} {xs : Nat → Int32} {b : jH} (hb : 152 ≤ b.1) (h6 : b.1 ≤ 1000000) {x1 : Int} {x2 : Int} {m : jM} {o : ((Int × jM) ⊕ jM)} {r : mm_R} (e : jd_299_b114 x1 x2 m = some o) (K : jsm (fun s => (∀ lv : jL, lv 0 = some (jR (some 76)) → lv 1 = some (jI x1) → lv 2 = some (jI s.1) → ey (mm_xt L xs) 10 299 30 lv [] (jhm b s.2) r)) (fun x => (∀ lv : jL, lv 0 = some (jR (some 76)) → lv 1 = some (jI x1) → ey (mm_xt L xs) 10 299 120 lv [] (jhm b x) r)) o) : ∀ lv : jL, lv 0 = some (jR (some 76)) → lv 1 = some (jI x1) → lv 2 = some (jI x2) → ey (mm_xt L xs) 10 299 114 lv [] (jhm b m) r := by
  intro lv f0 f1 f2
  unfold jd_299_b114 at e
  refine ey_iinc (cd_299 rfl) mt_299 rfl f2 ?_
  refine ey_goto (cd_299 rfl) rfl ?_
  cases e
  exact K (jup lv 2 (jI (x2 + 1))) f0 (jup_pi (lv := lv) (j := 1) (v := jI (x2 + 1)) (z := x1) f1) rfl
set_option maxRecDepth 100000 in
theorem jk_299_b99 {L : Nat} {xs : Nat → Int32} {b : jH} (hb : 152 ≤ b.1) (h6 : b.1 ≤ 1000000) {x1 : Int} {x2 : Int} {x4 : Int} {m : jM} {o : ((Int × jM) ⊕ jM)} {r : mm_R} (e : jd_299_b99 x1 x2 x4 m = some o) (K : jsm (fun s => (∀ lv : jL, lv 0 = some (jR (some 76)) → lv 1 = some (jI x1) → lv 2 = some (jI s.1) → ey (mm_xt L xs) 10 299 30 lv [] (jhm b s.2) r)) (fun x => (∀ lv : jL, lv 0 = some (jR (some 76)) → lv 1 = some (jI x1) → ey (mm_xt L xs) 10 299 120 lv [] (jhm b x) r)) o) : ∀ lv : jL, lv 0 = some (jR (some 76)) → lv 1 = some (jI x1) → lv 2 = some (jI x2) → lv 4 = some (jI x4) → ey (mm_xt L xs) 10 299 99 lv [] (jhm b m) r := by
  intro lv f0 f1 f2 f4
  unfold jd_299_b99 at e
  refine ey_aload_n (cd_299 rfl) f0 ?_
  refine ey_getf_r (cd_299 rfl) mt_299 rfl rfl rfl (jhm_gr (q := 129) hb rfl) ?_
  refine ey_iload_n (cd_299 rfl) f1 ?_
  refine ey_iload (cd_299 rfl) f4 ?_
  obtain ⟨m17, e18, e⟩ := jbind e
  refine ey_iast (cd_299 rfl) (jhm_ta hb (by decide) rfl e18) ?_
  refine ey_aload_n (cd_299 rfl) f0 ?_
  refine ey_getf_r (cd_299 rfl) mt_299 rfl rfl rfl (jhm_gr (q := 130) hb rfl) ?_
  refine ey_iload_n (cd_299 rfl) f1 ?_
  refine ey_iload_n (cd_299 rfl) f2 ?_
  obtain ⟨m19, e20, e⟩ := jbind e
  refine ey_iast (cd_299 rfl) (jhm_ta hb (by decide) rfl e20) ?_
  exact jk_299_b114 hb h6 e K lv f0 f1 f2
set_option maxRecDepth 100000 in
theorem jk_299_s30 {L : Nat} {xs : Nat → Int32} {b : jH} (hb : 152 ≤ b.1) (h6 : b.1 ≤ 1000000) {x1 : Int} {x2 : Int} {m : jM} {o : ((Int × jM) ⊕ jM)} {r : mm_R} (e : jd_299_s30 x1 x2 m = some o) (K : jsm (fun s => (∀ lv : jL, lv 0 = some (jR (some 76)) → lv 1 = some (jI x1) → lv 2 = some (jI s.1) → ey (mm_xt L xs) 10 299 30 lv [] (jhm b s.2) r)) (fun x => (∀ lv : jL, lv 0 = some (jR (some 76)) → lv 1 = some (jI x1) → ey (mm_xt L xs) 10 299 120 lv [] (jhm b x) r)) o) : ∀ lv : jL, lv 0 = some (jR (some 76)) → lv 1 = some (jI x1) → lv 2 = some (jI x2) → ey (mm_xt L xs) 10 299 30 lv [] (jhm b m) r := by
  intro lv f0 f1 f2
  unfold jd_299_s30 at e
  refine ey_iload_n (cd_299 rfl) f2 ?_
  refine ey_iconst (cd_299 rfl) ?_
  by_cases q6 : 4 < (jw x2)
  · rw [if_pos q6] at e
    refine ey_cgt (cd_299 rfl) rfl rfl (show jw 4 = 4 from by decide) q6 ?_
    cases e
    exact K lv f0 f1
  · rw [if_neg q6] at e
    refine ey_ngt (cd_299 rfl) rfl rfl (show jw 4 = 4 from by decide) q6 ?_
    refine ey_iload_n (cd_299 rfl) f1 ?_
    refine ey_iload_n (cd_299 rfl) f2 ?_
    refine ey_iadd (cd_299 rfl) ?_
    refine ey_aload_n (cd_299 rfl) f0 ?_
    refine ey_getf_i (z := (m 76 7)) (cd_299 rfl) mt_299 rfl rfl rfl (jhm_gi hb 7) ?_
    by_cases q7 : (jw (m 76 7)) < (jw (x1 + x2))
    · rw [if_pos q7] at e
      refine ey_cgt (cd_299 rfl) rfl rfl rfl q7 ?_
      cases e
      exact K lv f0 f1
    · rw [if_neg q7] at e
      refine ey_ngt (cd_299 rfl) rfl rfl rfl q7 ?_
      refine ey_aload_n (cd_299 rfl) f0 ?_
      refine ey_iload_n (cd_299 rfl) f1 ?_
      refine ey_iload_n (cd_299 rfl) f2 ?_
      refine ey_iconst (cd_299 rfl) ?_
      refine ey_aload_n (cd_299 rfl) f0 ?_
      refine ey_getf_r (cd_299 rfl) mt_299 rfl rfl rfl (jhm_gr (q := 82) hb rfl) ?_
      refine ey_iconst (cd_299 rfl) ?_
      obtain ⟨v8, e9, e⟩ := jbind e
      refine ey_iald (cd_299 rfl) (jhm_ai hb h6 (by decide) rfl e9) ?_
      refine ey_iconst (cd_299 rfl) ?_
      obtain ⟨q10, e11, e⟩ := jbind e
      refine ey_cv (s0 := [jI 0, jI v8, jI (-1), jI x2, jI x1, jR (some 76)]) (s1 := []) (st' := [jI q10.1]) (cd_299 rfl) mt_299 mt_294 rfl rfl rfl (jhm_is hb) rfl (jsml_s rfl) rfl (ok_294 hb h6 e11) ?_
      refine ey_istore_n (cd_299 rfl) mt_299 rfl ?_
      refine ey_aload_n (cd_299 rfl) f0 ?_
      refine ey_getf_i (z := (q10.2 76 83)) (cd_299 rfl) mt_299 rfl rfl rfl (jhm_gi hb 83) ?_
      refine ey_aload_n (cd_299 rfl) f0 ?_
      refine ey_getf_r (cd_299 rfl) mt_299 rfl rfl rfl (jhm_gr (q := 129) hb rfl) ?_
      refine ey_iload_n (cd_299 rfl) f1 ?_
      refine ey_iload_n (cd_299 rfl) (jup_pi (lv := lv) (j := 2) (v := jI q10.1) (z := x2) f2) ?_
      refine ey_iadd (cd_299 rfl) ?_
      obtain ⟨v12, e13, e⟩ := jbind e
      refine ey_iald (cd_299 rfl) (jhm_ai hb h6 (by decide) rfl e13) ?_
      refine ey_iadd (cd_299 rfl) ?_
      refine ey_istore (cd_299 rfl) mt_299 rfl ?_
      refine ey_aload_n (cd_299 rfl) f0 ?_
      refine ey_getf_r (cd_299 rfl) mt_299 rfl rfl rfl (jhm_gr (q := 129) hb rfl) ?_
      refine ey_iload_n (cd_299 rfl) f1 ?_
      obtain ⟨v14, e15, e⟩ := jbind e
      refine ey_iald (cd_299 rfl) (jhm_ai hb h6 (by decide) rfl e15) ?_
      refine ey_iconst (cd_299 rfl) ?_
      by_cases q16 : (jw v14) = (-1)
      · rw [if_pos q16] at e
        refine ey_ceq (cd_299 rfl) rfl rfl (show jw (-1) = (-1) from by decide) q16 ?_
        exact jk_299_b99 hb h6 e K (jup (jup lv 3 (jI q10.1)) 4 (jI ((q10.2 76 83) + v12))) f0 f1 (jup_o rfl (jup_pi (lv := lv) (j := 2) (v := jI q10.1) (z := x2) f2)) rfl
      · rw [if_neg q16] at e
        refine ey_neq (cd_299 rfl) rfl rfl (show jw (-1) = (-1) from by decide) q16 ?_
        refine ey_iload (cd_299 rfl) rfl ?_
        refine ey_aload_n (cd_299 rfl) f0 ?_
        refine ey_getf_r (cd_299 rfl) mt_299 rfl rfl rfl (jhm_gr (q := 129) hb rfl) ?_
        refine ey_iload_n (cd_299 rfl) f1 ?_
        obtain ⟨v21, e22, e⟩ := jbind e
        refine ey_iald (cd_299 rfl) (jhm_ai hb h6 (by decide) rfl e22) ?_
        by_cases q23 : (jw ((q10.2 76 83) + v12)) < (jw v21)
        · rw [if_pos q23] at e
          refine ey_clt (cd_299 rfl) rfl rfl rfl q23 ?_
          exact jk_299_b99 hb h6 e K (jup (jup lv 3 (jI q10.1)) 4 (jI ((q10.2 76 83) + v12))) f0 f1 (jup_o rfl (jup_pi (lv := lv) (j := 2) (v := jI q10.1) (z := x2) f2)) rfl
        · rw [if_neg q23] at e
          refine ey_nlt (cd_299 rfl) rfl rfl rfl q23 ?_
          refine ey_goto (cd_299 rfl) rfl ?_
          exact jk_299_b114 hb h6 e K (jup (jup lv 3 (jI q10.1)) 4 (jI ((q10.2 76 83) + v12))) f0 f1 (jup_o rfl (jup_pi (lv := lv) (j := 2) (v := jI q10.1) (z := x2) f2))
theorem jk_299_l30 {L : Nat} {xs : Nat → Int32} {b : jH} (hb : 152 ≤ b.1) (h6 : b.1 ≤ 1000000) {x1 : Int} {x2 : Int} {m : jM} {x : jM} {r : mm_R} (e : jd_299_l30 x1 x2 m = some x) (K : (∀ lv : jL, lv 0 = some (jR (some 76)) → lv 1 = some (jI x1) → ey (mm_xt L xs) 10 299 120 lv [] (jhm b x) r)) : ∀ lv : jL, lv 0 = some (jR (some 76)) → lv 1 = some (jI x1) → lv 2 = some (jI x2) → ey (mm_xt L xs) 10 299 30 lv [] (jhm b m) r := by
  unfold jd_299_l30 at e
  exact jlp_ok2 (P := fun s => ∀ lv : jL, lv 0 = some (jR (some 76)) → lv 1 = some (jI x1) → lv 2 = some (jI s.1) → ey (mm_xt L xs) 10 299 30 lv [] (jhm b s.2) r) (Q := fun x => (∀ lv : jL, lv 0 = some (jR (some 76)) → lv 1 = some (jI x1) → ey (mm_xt L xs) 10 299 120 lv [] (jhm b x) r)) (fun s q hq hk => jk_299_s30 hb h6 hq hk) jfu _ x e K
set_option maxRecDepth 100000 in
theorem jk_299_s17 {L : Nat} {xs : Nat → Int32} {b : jH} (hb : 152 ≤ b.1) (h6 : b.1 ≤ 1000000) {x1 : Int} {m : jM} {o : ((Int × jM) ⊕ jM)} {r : mm_R} (e : jd_299_s17 x1 m = some o) (K : jsm (fun s => (∀ lv : jL, lv 0 = some (jR (some 76)) → lv 1 = some (jI s.1) → ey (mm_xt L xs) 10 299 17 lv [] (jhm b s.2) r)) (fun x => (∀ lv : jL, ey (mm_xt L xs) 10 299 126 lv [] (jhm b x) r)) o) : ∀ lv : jL, lv 0 = some (jR (some 76)) → lv 1 = some (jI x1) → ey (mm_xt L xs) 10 299 17 lv [] (jhm b m) r := by
  intro lv f0 f1
  unfold jd_299_s17 at e
  refine ey_iload_n (cd_299 rfl) f1 ?_
  by_cases q3 : (jw x1) < 0
  · rw [if_pos q3] at e
    refine ey_zlt (cd_299 rfl) rfl rfl q3 ?_
    cases e
    exact K lv 
  · rw [if_neg q3] at e
    refine ey_ylt (cd_299 rfl) rfl rfl q3 ?_
    refine ey_aload_n (cd_299 rfl) f0 ?_
    refine ey_getf_r (cd_299 rfl) mt_299 rfl rfl rfl (jhm_gr (q := 129) hb rfl) ?_
    refine ey_iload_n (cd_299 rfl) f1 ?_
    refine ey_iconst (cd_299 rfl) ?_
    obtain ⟨m4, e5, e⟩ := jbind e
    refine ey_iast (cd_299 rfl) (jhm_ta hb (by decide) rfl e5) ?_
    refine ey_iconst (cd_299 rfl) ?_
    refine ey_istore_n (cd_299 rfl) mt_299 rfl ?_
    obtain ⟨x24, e25, e⟩ := jbind e
    refine jk_299_l30 hb h6 e25 ?_ (jup lv 2 (jI 1)) f0 (jup_pi (lv := lv) (j := 1) (v := jI 1) (z := x1) f1) rfl
    intro lv g0 g1
    refine ey_iinc (cd_299 rfl) mt_299 rfl g1 ?_
    refine ey_goto (cd_299 rfl) rfl ?_
    cases e
    exact K (jup lv 1 (jI (x1 + (-1)))) (jup_pr (lv := lv) (j := 0) (v := jI (x1 + (-1))) (z := (some 76)) g0) rfl
theorem jk_299_l17 {L : Nat} {xs : Nat → Int32} {b : jH} (hb : 152 ≤ b.1) (h6 : b.1 ≤ 1000000) {x1 : Int} {m : jM} {x : jM} {r : mm_R} (e : jd_299_l17 x1 m = some x) (K : (∀ lv : jL, ey (mm_xt L xs) 10 299 126 lv [] (jhm b x) r)) : ∀ lv : jL, lv 0 = some (jR (some 76)) → lv 1 = some (jI x1) → ey (mm_xt L xs) 10 299 17 lv [] (jhm b m) r := by
  unfold jd_299_l17 at e
  exact jlp_ok2 (P := fun s => ∀ lv : jL, lv 0 = some (jR (some 76)) → lv 1 = some (jI s.1) → ey (mm_xt L xs) 10 299 17 lv [] (jhm b s.2) r) (Q := fun x => (∀ lv : jL, ey (mm_xt L xs) 10 299 126 lv [] (jhm b x) r)) (fun s q hq hk => jk_299_s17 hb h6 hq hk) jfu _ x e K
set_option maxRecDepth 100000 in
theorem ok_299 {L : Nat} {xs : Nat → Int32} {b : jH} (hb : 152 ≤ b.1) (h6 : b.1 ≤ 1000000)  {m : jM} {o : jM} (e : jd_299  m = some o) : mm_Runs (mm_xt L xs) 11 299 ([jR (some 76)].map jcv) (jaH (jhm b m)) (.inl (none, jaH (jhm b o))) := by
  refine ey_run0 _ mt_299 (jsl_s rfl) ?_
  unfold jd_299 at e
  refine ey_aload_n (cd_299 rfl) rfl ?_
  refine ey_getf_r (cd_299 rfl) mt_299 rfl rfl rfl (jhm_gr (q := 129) hb rfl) ?_
  refine ey_aload_n (cd_299 rfl) rfl ?_
  refine ey_getf_i (z := (m 76 7)) (cd_299 rfl) mt_299 rfl rfl rfl (jhm_gi hb 7) ?_
  refine ey_iconst (cd_299 rfl) ?_
  obtain ⟨m1, e2, e⟩ := jbind e
  refine ey_iast (cd_299 rfl) (jhm_ta hb (by decide) rfl e2) ?_
  refine ey_aload_n (cd_299 rfl) rfl ?_
  refine ey_getf_i (z := (m1 76 7)) (cd_299 rfl) mt_299 rfl rfl rfl (jhm_gi hb 7) ?_
  refine ey_iconst (cd_299 rfl) ?_
  refine ey_isub (cd_299 rfl) ?_
  refine ey_istore_n (cd_299 rfl) mt_299 rfl ?_
  obtain ⟨x26, e27, e⟩ := jbind e
  refine jk_299_l17 hb h6 e27 ?_ (jup (jlf (jla 0 [jR (some 76)])) 1 (jI ((m1 76 7) - 1))) (jup_pr (lv := (jlf (jla 0 [jR (some 76)]))) (j := 0) (v := jI ((m1 76 7) - 1)) (z := (some 76)) rfl) rfl
  intro lv 
  cases e
  exact ey_retv (cd_299 rfl) mt_299 rfl
theorem cd_302 {pc : Nat} {i : Instr × Nat} (h : mm_lk mm_c302 pc = some i) : mm_cd 302 pc = some i := h
theorem mt_302 : mm_MT 302 = (12, 2, some .int, 1, 0, []) := rfl
set_option maxRecDepth 100000 in
theorem jk_302_b22 {L : Nat} {xs : Nat → Int32} {b : jH} (hb : 152 ≤ b.1) (h6 : b.1 ≤ 1000000) {y0 : Int} {m : jM} {o : Int} (e : jd_302_b22 y0 m = some o) : ∀ lv : jL, ey (mm_xt L xs) 0 302 22 lv [jI y0] (jhm b m) (.inl (some (jcv (jI o)), jaH (jhm b m))) := by
  intro lv 
  unfold jd_302_b22 at e
  cases e
  exact ey_reti (cd_302 rfl) mt_302 rfl
set_option maxRecDepth 100000 in
theorem ok_302 {L : Nat} {xs : Nat → Int32} {b : jH} (hb : 152 ≤ b.1) (h6 : b.1 ≤ 1000000) {p0 : Int} {m : jM} {o : Int} (e : jd_302 p0 m = some o) : mm_Runs (mm_xt L xs) 1 302 ([jR (some 76), jI p0].map jcv) (jaH (jhm b m)) (.inl (some (jcv (jI o)), jaH (jhm b m))) := by
  refine ey_run0 _ mt_302 (jsl_s rfl) ?_
  unfold jd_302 at e
  refine ey_iload_n (cd_302 rfl) rfl ?_
  refine ey_aload_n (cd_302 rfl) rfl ?_
  refine ey_getf_i (z := (m 76 47)) (cd_302 rfl) mt_302 rfl rfl rfl (jhm_gi hb 47) ?_
  by_cases q1 : (jw (m 76 47)) ≤ (jw p0)
  · rw [if_pos q1] at e
    refine ey_cge (cd_302 rfl) rfl rfl rfl q1 ?_
    refine ey_iconst (cd_302 rfl) ?_
    exact jk_302_b22 hb h6 e (jlf (jla 0 [jR (some 76), jI p0])) 
  · rw [if_neg q1] at e
    refine ey_nge (cd_302 rfl) rfl rfl rfl q1 ?_
    refine ey_aload_n (cd_302 rfl) rfl ?_
    refine ey_getf_r (cd_302 rfl) mt_302 rfl rfl rfl (jhm_gr (q := 112) hb rfl) ?_
    refine ey_iload_n (cd_302 rfl) rfl ?_
    obtain ⟨v2, e3, e⟩ := jbind e
    refine ey_bald (cd_302 rfl) (jhm_ab hb (by decide) rfl e3) ?_
    refine ey_sipush (cd_302 rfl) (by decide) ?_
    refine ey_iand (cd_302 rfl) ?_
    refine ey_goto (cd_302 rfl) rfl ?_
    exact jk_302_b22 hb h6 e (jlf (jla 0 [jR (some 76), jI p0])) 
theorem cd_303 {pc : Nat} {i : Instr × Nat} (h : mm_lk mm_c303 pc = some i) : mm_cd 303 pc = some i := h
theorem mt_303 : mm_MT 303 = (12, 4, some .int, 0, 0, []) := rfl
set_option maxRecDepth 100000 in
theorem jk_303_b111 {L : Nat} {xs : Nat → Int32} {b : jH} (hb : 152 ≤ b.1) (h6 : b.1 ≤ 1000000) {x1 : Int} {y0 : Int} {m : jM} {o : (Int ⊕ (Int ⊕ Unit))} {r : mm_R} (e : jd_303_b111 x1 y0 m = some o) (K : jsm (fun s => (∀ lv : jL, lv 0 = some (jR (some 76)) → lv 1 = some (jI s) → ey (mm_xt L xs) 1 303 2 lv [] (jhm b m) r)) (fun x => (jsm (fun y => (∀ lv : jL, lv 1 = some (jI y) → ey (mm_xt L xs) 1 303 116 lv [] (jhm b m) r)) (fun z => (∀ lv : jL, ey (mm_xt L xs) 1 303 124 lv [] (jhm b m) r)) x)) o) : ∀ lv : jL, lv 0 = some (jR (some 76)) → lv 1 = some (jI x1) → ey (mm_xt L xs) 1 303 111 lv [jI y0] (jhm b m) r := by
  intro lv f0 f1
  unfold jd_303_b111 at e
  refine ey_istore_n (cd_303 rfl) mt_303 rfl ?_
  refine ey_iload_n (cd_303 rfl) rfl ?_
  by_cases q4 : (jw y0) = 0
  · rw [if_pos q4] at e
    refine ey_yne (cd_303 rfl) rfl rfl (fun w => w q4) ?_
    cases e
    exact K (jup lv 3 (jI y0)) f1
  · rw [if_neg q4] at e
    refine ey_zne (cd_303 rfl) rfl rfl q4 ?_
    refine ey_iinc (cd_303 rfl) mt_303 rfl f1 ?_
    refine ey_goto (cd_303 rfl) rfl ?_
    cases e
    exact K (jup (jup lv 3 (jI y0)) 1 (jI (x1 + 1))) (jup_pr (lv := (jup lv 3 (jI y0))) (j := 0) (v := jI (x1 + 1)) (z := (some 76)) f0) rfl
set_option maxRecDepth 100000 in
theorem jk_303_s2 {L : Nat} {xs : Nat → Int32} {b : jH} (hb : 152 ≤ b.1) (h6 : b.1 ≤ 1000000) {x1 : Int} {m : jM} {o : (Int ⊕ (Int ⊕ Unit))} {r : mm_R} (e : jd_303_s2 x1 m = some o) (K : jsm (fun s => (∀ lv : jL, lv 0 = some (jR (some 76)) → lv 1 = some (jI s) → ey (mm_xt L xs) 1 303 2 lv [] (jhm b m) r)) (fun x => (jsm (fun y => (∀ lv : jL, lv 1 = some (jI y) → ey (mm_xt L xs) 1 303 116 lv [] (jhm b m) r)) (fun z => (∀ lv : jL, ey (mm_xt L xs) 1 303 124 lv [] (jhm b m) r)) x)) o) : ∀ lv : jL, lv 0 = some (jR (some 76)) → lv 1 = some (jI x1) → ey (mm_xt L xs) 1 303 2 lv [] (jhm b m) r := by
  intro lv f0 f1
  unfold jd_303_s2 at e
  refine ey_iload_n (cd_303 rfl) f1 ?_
  refine ey_bipush (cd_303 rfl) (by decide) ?_
  by_cases q1 : 7 ≤ (jw x1)
  · rw [if_pos q1] at e
    refine ey_cge (cd_303 rfl) rfl rfl (show jw 7 = 7 from by decide) q1 ?_
    cases e
    exact K lv 
  · rw [if_neg q1] at e
    refine ey_nge (cd_303 rfl) rfl rfl (show jw 7 = 7 from by decide) q1 ?_
    refine ey_aload_n (cd_303 rfl) f0 ?_
    refine ey_iload_n (cd_303 rfl) f1 ?_
    obtain ⟨v2, e3, e⟩ := jbind e
    refine ey_cv (s0 := [jI x1, jR (some 76)]) (s1 := []) (st' := [jI v2]) (cd_303 rfl) mt_303 mt_302 rfl rfl rfl (jhm_is hb) rfl (jsml_s rfl) rfl (ok_302 hb h6 e3) ?_
    refine ey_istore_n (cd_303 rfl) mt_303 rfl ?_
    refine ey_iload_n (cd_303 rfl) (jup_pi (lv := lv) (j := 1) (v := jI v2) (z := x1) f1) ?_
    have K5 : ∀ lv : jL, lv 0 = some (jR (some 76)) → lv 1 = some (jI x1) → ey (mm_xt L xs) 1 303 111 lv [jI (if (jw x1) = 0 then (if (jw v2) = 77 then 1 else 0) else (if (jw x1) = 1 then (if (jw v2) = 70 then 1 else 0) else (if (jw x1) = 2 then (jd_204 (jw v2) 0 2) else (if 5 ≤ (jw x1) then (if (jw x1) = 5 then (jd_204 (jw v2) 1 60) else (jd_204 (jw v2) 1 12)) else (jd_204 (jw v2) 1 3)))))] (jhm b m) r := by
      intro lv g0 g1
      exact jk_303_b111 hb h6 e K lv g0 g1
    by_cases q6 : (jw x1) = 0
    · refine ey_yne (cd_303 rfl) rfl rfl (fun w => w q6) ?_
      refine ey_iload_n (cd_303 rfl) rfl ?_
      refine ey_bipush (cd_303 rfl) (by decide) ?_
      by_cases q7 : (jw v2) = 77
      · refine ey_nne (cd_303 rfl) rfl rfl (show jw 77 = 77 from by decide) (fun w => w q7) ?_
        refine ey_iconst (cd_303 rfl) ?_
        refine ey_goto (cd_303 rfl) rfl ?_
        exact ey_rs (s0 := [jI 1]) (s1 := [jI (if (jw x1) = 0 then (if (jw v2) = 77 then 1 else 0) else (if (jw x1) = 1 then (if (jw v2) = 70 then 1 else 0) else (if (jw x1) = 2 then (jd_204 (jw v2) 0 2) else (if 5 ≤ (jw x1) then (if (jw x1) = 5 then (jd_204 (jw v2) 1 60) else (jd_204 (jw v2) 1 12)) else (jd_204 (jw v2) 1 3)))))]) (by rw [show ((if (jw x1) = 0 then (if (jw v2) = 77 then 1 else 0) else (if (jw x1) = 1 then (if (jw v2) = 70 then 1 else 0) else (if (jw x1) = 2 then (jd_204 (jw v2) 0 2) else (if 5 ≤ (jw x1) then (if (jw x1) = 5 then (jd_204 (jw v2) 1 60) else (jd_204 (jw v2) 1 12)) else (jd_204 (jw v2) 1 3))))) : Int) = 1 from ((if_pos q6).trans (if_pos q7))]) (K5 (jup lv 2 (jI v2)) f0 (jup_pi (lv := lv) (j := 1) (v := jI v2) (z := x1) f1))
      · refine ey_cne (cd_303 rfl) rfl rfl (show jw 77 = 77 from by decide) q7 ?_
        refine ey_iconst (cd_303 rfl) ?_
        refine ey_goto (cd_303 rfl) rfl ?_
        exact ey_rs (s0 := [jI 0]) (s1 := [jI (if (jw x1) = 0 then (if (jw v2) = 77 then 1 else 0) else (if (jw x1) = 1 then (if (jw v2) = 70 then 1 else 0) else (if (jw x1) = 2 then (jd_204 (jw v2) 0 2) else (if 5 ≤ (jw x1) then (if (jw x1) = 5 then (jd_204 (jw v2) 1 60) else (jd_204 (jw v2) 1 12)) else (jd_204 (jw v2) 1 3)))))]) (by rw [show ((if (jw x1) = 0 then (if (jw v2) = 77 then 1 else 0) else (if (jw x1) = 1 then (if (jw v2) = 70 then 1 else 0) else (if (jw x1) = 2 then (jd_204 (jw v2) 0 2) else (if 5 ≤ (jw x1) then (if (jw x1) = 5 then (jd_204 (jw v2) 1 60) else (jd_204 (jw v2) 1 12)) else (jd_204 (jw v2) 1 3))))) : Int) = 0 from ((if_pos q6).trans (if_neg q7))]) (K5 (jup lv 2 (jI v2)) f0 (jup_pi (lv := lv) (j := 1) (v := jI v2) (z := x1) f1))
    · refine ey_zne (cd_303 rfl) rfl rfl q6 ?_
      refine ey_iload_n (cd_303 rfl) (jup_pi (lv := lv) (j := 1) (v := jI v2) (z := x1) f1) ?_
      refine ey_iconst (cd_303 rfl) ?_
      by_cases q8 : (jw x1) = 1
      · refine ey_nne (cd_303 rfl) rfl rfl (show jw 1 = 1 from by decide) (fun w => w q8) ?_
        refine ey_iload_n (cd_303 rfl) rfl ?_
        refine ey_bipush (cd_303 rfl) (by decide) ?_
        by_cases q9 : (jw v2) = 70
        · refine ey_nne (cd_303 rfl) rfl rfl (show jw 70 = 70 from by decide) (fun w => w q9) ?_
          refine ey_iconst (cd_303 rfl) ?_
          refine ey_goto (cd_303 rfl) rfl ?_
          exact ey_rs (s0 := [jI 1]) (s1 := [jI (if (jw x1) = 0 then (if (jw v2) = 77 then 1 else 0) else (if (jw x1) = 1 then (if (jw v2) = 70 then 1 else 0) else (if (jw x1) = 2 then (jd_204 (jw v2) 0 2) else (if 5 ≤ (jw x1) then (if (jw x1) = 5 then (jd_204 (jw v2) 1 60) else (jd_204 (jw v2) 1 12)) else (jd_204 (jw v2) 1 3)))))]) (by rw [show ((if (jw x1) = 0 then (if (jw v2) = 77 then 1 else 0) else (if (jw x1) = 1 then (if (jw v2) = 70 then 1 else 0) else (if (jw x1) = 2 then (jd_204 (jw v2) 0 2) else (if 5 ≤ (jw x1) then (if (jw x1) = 5 then (jd_204 (jw v2) 1 60) else (jd_204 (jw v2) 1 12)) else (jd_204 (jw v2) 1 3))))) : Int) = 1 from ((if_neg q6).trans ((if_pos q8).trans (if_pos q9)))]) (K5 (jup lv 2 (jI v2)) f0 (jup_pi (lv := lv) (j := 1) (v := jI v2) (z := x1) f1))
        · refine ey_cne (cd_303 rfl) rfl rfl (show jw 70 = 70 from by decide) q9 ?_
          refine ey_iconst (cd_303 rfl) ?_
          refine ey_goto (cd_303 rfl) rfl ?_
          exact ey_rs (s0 := [jI 0]) (s1 := [jI (if (jw x1) = 0 then (if (jw v2) = 77 then 1 else 0) else (if (jw x1) = 1 then (if (jw v2) = 70 then 1 else 0) else (if (jw x1) = 2 then (jd_204 (jw v2) 0 2) else (if 5 ≤ (jw x1) then (if (jw x1) = 5 then (jd_204 (jw v2) 1 60) else (jd_204 (jw v2) 1 12)) else (jd_204 (jw v2) 1 3)))))]) (by rw [show ((if (jw x1) = 0 then (if (jw v2) = 77 then 1 else 0) else (if (jw x1) = 1 then (if (jw v2) = 70 then 1 else 0) else (if (jw x1) = 2 then (jd_204 (jw v2) 0 2) else (if 5 ≤ (jw x1) then (if (jw x1) = 5 then (jd_204 (jw v2) 1 60) else (jd_204 (jw v2) 1 12)) else (jd_204 (jw v2) 1 3))))) : Int) = 0 from ((if_neg q6).trans ((if_pos q8).trans (if_neg q9)))]) (K5 (jup lv 2 (jI v2)) f0 (jup_pi (lv := lv) (j := 1) (v := jI v2) (z := x1) f1))
      · refine ey_cne (cd_303 rfl) rfl rfl (show jw 1 = 1 from by decide) q8 ?_
        refine ey_iload_n (cd_303 rfl) (jup_pi (lv := lv) (j := 1) (v := jI v2) (z := x1) f1) ?_
        refine ey_iconst (cd_303 rfl) ?_
        by_cases q10 : (jw x1) = 2
        · refine ey_nne (cd_303 rfl) rfl rfl (show jw 2 = 2 from by decide) (fun w => w q10) ?_
          refine ey_iload_n (cd_303 rfl) rfl ?_
          refine ey_i2l (cd_303 rfl) ?_
          refine ey_lconst0 (cd_303 rfl) ?_
          refine ey_ldc2 (z := 2) (cd_303 rfl) mt_303 rfl (by decide) ?_
          refine ey_cs (s0 := [jJ 2, jJ 0, jJ (jw v2)]) (s1 := []) (st' := [jI (jd_204 (jw v2) 0 2)]) (cd_303 rfl) mt_303 mt_204 rfl (by decide) rfl rfl (jsml_s rfl) rfl (ok_204 ) ?_
          refine ey_goto (cd_303 rfl) rfl ?_
          exact ey_rs (s0 := [jI (jd_204 (jw v2) 0 2)]) (s1 := [jI (if (jw x1) = 0 then (if (jw v2) = 77 then 1 else 0) else (if (jw x1) = 1 then (if (jw v2) = 70 then 1 else 0) else (if (jw x1) = 2 then (jd_204 (jw v2) 0 2) else (if 5 ≤ (jw x1) then (if (jw x1) = 5 then (jd_204 (jw v2) 1 60) else (jd_204 (jw v2) 1 12)) else (jd_204 (jw v2) 1 3)))))]) (by rw [show ((if (jw x1) = 0 then (if (jw v2) = 77 then 1 else 0) else (if (jw x1) = 1 then (if (jw v2) = 70 then 1 else 0) else (if (jw x1) = 2 then (jd_204 (jw v2) 0 2) else (if 5 ≤ (jw x1) then (if (jw x1) = 5 then (jd_204 (jw v2) 1 60) else (jd_204 (jw v2) 1 12)) else (jd_204 (jw v2) 1 3))))) : Int) = (jd_204 (jw v2) 0 2) from ((if_neg q6).trans ((if_neg q8).trans (if_pos q10)))]) (K5 (jup lv 2 (jI v2)) f0 (jup_pi (lv := lv) (j := 1) (v := jI v2) (z := x1) f1))
        · refine ey_cne (cd_303 rfl) rfl rfl (show jw 2 = 2 from by decide) q10 ?_
          refine ey_iload_n (cd_303 rfl) (jup_pi (lv := lv) (j := 1) (v := jI v2) (z := x1) f1) ?_
          refine ey_iconst (cd_303 rfl) ?_
          by_cases q11 : 5 ≤ (jw x1)
          · refine ey_cge (cd_303 rfl) rfl rfl (show jw 5 = 5 from by decide) q11 ?_
            refine ey_iload_n (cd_303 rfl) (jup_pi (lv := lv) (j := 1) (v := jI v2) (z := x1) f1) ?_
            refine ey_iconst (cd_303 rfl) ?_
            by_cases q12 : (jw x1) = 5
            · refine ey_nne (cd_303 rfl) rfl rfl (show jw 5 = 5 from by decide) (fun w => w q12) ?_
              refine ey_iload_n (cd_303 rfl) rfl ?_
              refine ey_i2l (cd_303 rfl) ?_
              refine ey_lconst1 (cd_303 rfl) ?_
              refine ey_ldc2 (z := 60) (cd_303 rfl) mt_303 rfl (by decide) ?_
              refine ey_cs (s0 := [jJ 60, jJ 1, jJ (jw v2)]) (s1 := []) (st' := [jI (jd_204 (jw v2) 1 60)]) (cd_303 rfl) mt_303 mt_204 rfl (by decide) rfl rfl (jsml_s rfl) rfl (ok_204 ) ?_
              refine ey_goto (cd_303 rfl) rfl ?_
              exact ey_rs (s0 := [jI (jd_204 (jw v2) 1 60)]) (s1 := [jI (if (jw x1) = 0 then (if (jw v2) = 77 then 1 else 0) else (if (jw x1) = 1 then (if (jw v2) = 70 then 1 else 0) else (if (jw x1) = 2 then (jd_204 (jw v2) 0 2) else (if 5 ≤ (jw x1) then (if (jw x1) = 5 then (jd_204 (jw v2) 1 60) else (jd_204 (jw v2) 1 12)) else (jd_204 (jw v2) 1 3)))))]) (by rw [show ((if (jw x1) = 0 then (if (jw v2) = 77 then 1 else 0) else (if (jw x1) = 1 then (if (jw v2) = 70 then 1 else 0) else (if (jw x1) = 2 then (jd_204 (jw v2) 0 2) else (if 5 ≤ (jw x1) then (if (jw x1) = 5 then (jd_204 (jw v2) 1 60) else (jd_204 (jw v2) 1 12)) else (jd_204 (jw v2) 1 3))))) : Int) = (jd_204 (jw v2) 1 60) from ((if_neg q6).trans ((if_neg q8).trans ((if_neg q10).trans ((if_pos q11).trans (if_pos q12)))))]) (K5 (jup lv 2 (jI v2)) f0 (jup_pi (lv := lv) (j := 1) (v := jI v2) (z := x1) f1))
            · refine ey_cne (cd_303 rfl) rfl rfl (show jw 5 = 5 from by decide) q12 ?_
              refine ey_iload_n (cd_303 rfl) rfl ?_
              refine ey_i2l (cd_303 rfl) ?_
              refine ey_lconst1 (cd_303 rfl) ?_
              refine ey_ldc2 (z := 12) (cd_303 rfl) mt_303 rfl (by decide) ?_
              refine ey_cs (s0 := [jJ 12, jJ 1, jJ (jw v2)]) (s1 := []) (st' := [jI (jd_204 (jw v2) 1 12)]) (cd_303 rfl) mt_303 mt_204 rfl (by decide) rfl rfl (jsml_s rfl) rfl (ok_204 ) ?_
              exact ey_rs (s0 := [jI (jd_204 (jw v2) 1 12)]) (s1 := [jI (if (jw x1) = 0 then (if (jw v2) = 77 then 1 else 0) else (if (jw x1) = 1 then (if (jw v2) = 70 then 1 else 0) else (if (jw x1) = 2 then (jd_204 (jw v2) 0 2) else (if 5 ≤ (jw x1) then (if (jw x1) = 5 then (jd_204 (jw v2) 1 60) else (jd_204 (jw v2) 1 12)) else (jd_204 (jw v2) 1 3)))))]) (by rw [show ((if (jw x1) = 0 then (if (jw v2) = 77 then 1 else 0) else (if (jw x1) = 1 then (if (jw v2) = 70 then 1 else 0) else (if (jw x1) = 2 then (jd_204 (jw v2) 0 2) else (if 5 ≤ (jw x1) then (if (jw x1) = 5 then (jd_204 (jw v2) 1 60) else (jd_204 (jw v2) 1 12)) else (jd_204 (jw v2) 1 3))))) : Int) = (jd_204 (jw v2) 1 12) from ((if_neg q6).trans ((if_neg q8).trans ((if_neg q10).trans ((if_pos q11).trans (if_neg q12)))))]) (K5 (jup lv 2 (jI v2)) f0 (jup_pi (lv := lv) (j := 1) (v := jI v2) (z := x1) f1))
          · refine ey_nge (cd_303 rfl) rfl rfl (show jw 5 = 5 from by decide) q11 ?_
            refine ey_iload_n (cd_303 rfl) rfl ?_
            refine ey_i2l (cd_303 rfl) ?_
            refine ey_lconst1 (cd_303 rfl) ?_
            refine ey_ldc2 (z := 3) (cd_303 rfl) mt_303 rfl (by decide) ?_
            refine ey_cs (s0 := [jJ 3, jJ 1, jJ (jw v2)]) (s1 := []) (st' := [jI (jd_204 (jw v2) 1 3)]) (cd_303 rfl) mt_303 mt_204 rfl (by decide) rfl rfl (jsml_s rfl) rfl (ok_204 ) ?_
            refine ey_goto (cd_303 rfl) rfl ?_
            exact ey_rs (s0 := [jI (jd_204 (jw v2) 1 3)]) (s1 := [jI (if (jw x1) = 0 then (if (jw v2) = 77 then 1 else 0) else (if (jw x1) = 1 then (if (jw v2) = 70 then 1 else 0) else (if (jw x1) = 2 then (jd_204 (jw v2) 0 2) else (if 5 ≤ (jw x1) then (if (jw x1) = 5 then (jd_204 (jw v2) 1 60) else (jd_204 (jw v2) 1 12)) else (jd_204 (jw v2) 1 3)))))]) (by rw [show ((if (jw x1) = 0 then (if (jw v2) = 77 then 1 else 0) else (if (jw x1) = 1 then (if (jw v2) = 70 then 1 else 0) else (if (jw x1) = 2 then (jd_204 (jw v2) 0 2) else (if 5 ≤ (jw x1) then (if (jw x1) = 5 then (jd_204 (jw v2) 1 60) else (jd_204 (jw v2) 1 12)) else (jd_204 (jw v2) 1 3))))) : Int) = (jd_204 (jw v2) 1 3) from ((if_neg q6).trans ((if_neg q8).trans ((if_neg q10).trans (if_neg q11))))]) (K5 (jup lv 2 (jI v2)) f0 (jup_pi (lv := lv) (j := 1) (v := jI v2) (z := x1) f1))
theorem jk_303_l2 {L : Nat} {xs : Nat → Int32} {b : jH} (hb : 152 ≤ b.1) (h6 : b.1 ≤ 1000000) {x1 : Int} {m : jM} {x : (Int ⊕ Unit)} {r : mm_R} (e : jd_303_l2 x1 m = some x) (K : (jsm (fun y => (∀ lv : jL, lv 1 = some (jI y) → ey (mm_xt L xs) 1 303 116 lv [] (jhm b m) r)) (fun z => (∀ lv : jL, ey (mm_xt L xs) 1 303 124 lv [] (jhm b m) r)) x)) : ∀ lv : jL, lv 0 = some (jR (some 76)) → lv 1 = some (jI x1) → ey (mm_xt L xs) 1 303 2 lv [] (jhm b m) r := by
  unfold jd_303_l2 at e
  exact jlp_ok2 (P := fun s => ∀ lv : jL, lv 0 = some (jR (some 76)) → lv 1 = some (jI s) → ey (mm_xt L xs) 1 303 2 lv [] (jhm b m) r) (Q := fun x => (jsm (fun y => (∀ lv : jL, lv 1 = some (jI y) → ey (mm_xt L xs) 1 303 116 lv [] (jhm b m) r)) (fun z => (∀ lv : jL, ey (mm_xt L xs) 1 303 124 lv [] (jhm b m) r)) x)) (fun s q hq hk => jk_303_s2 hb h6 hq hk) jfu _ x e K
set_option maxRecDepth 100000 in
theorem ok_303 {L : Nat} {xs : Nat → Int32} {b : jH} (hb : 152 ≤ b.1) (h6 : b.1 ≤ 1000000)  {m : jM} {o : Int} (e : jd_303  m = some o) : mm_Runs (mm_xt L xs) 2 303 ([jR (some 76)].map jcv) (jaH (jhm b m)) (.inl (some (jcv (jI o)), jaH (jhm b m))) := by
  refine ey_run0 _ mt_303 (jsl_s rfl) ?_
  unfold jd_303 at e
  refine ey_iconst (cd_303 rfl) ?_
  refine ey_istore_n (cd_303 rfl) mt_303 rfl ?_
  obtain ⟨x13, e14, e⟩ := jbind e
  refine jk_303_l2 hb h6 e14 ?_ (jup (jlf (jla 0 [jR (some 76)])) 1 (jI 0)) (jup_pr (lv := (jlf (jla 0 [jR (some 76)]))) (j := 0) (v := jI 0) (z := (some 76)) rfl) rfl
  cases x13 with
  | inl y15 =>
    replace e : (some y15 : Option Int) = some o := e
    intro lv g1
    refine ey_iload_n (cd_303 rfl) g1 ?_
    cases e
    exact ey_reti (cd_303 rfl) mt_303 rfl
  | inr y16 =>
    replace e : (some (-1) : Option Int) = some o := e
    intro lv 
    refine ey_iconst (cd_303 rfl) ?_
    cases e
    exact ey_reti (cd_303 rfl) mt_303 rfl
theorem cd_304 {pc : Nat} {i : Instr × Nat} (h : mm_lk mm_c304 pc = some i) : mm_cd 304 pc = some i := h
theorem mt_304 : mm_MT 304 = (12, 4, some .boolean, 1, 0, []) := rfl
set_option maxRecDepth 100000 in
theorem jk_304_b31 {L : Nat} {xs : Nat → Int32} {b : jH} (hb : 152 ≤ b.1) (h6 : b.1 ≤ 1000000) {x1 : Int} {x3 : Int} {y0 : Int} {m : jM} {o : ((Int × Int) ⊕ Int)} {r : mm_R} (e : jd_304_b31 x1 x3 y0 m = some o) (K : jsm (fun s => (∀ lv : jL, lv 0 = some (jR (some 76)) → lv 1 = some (jI x1) → lv 2 = some (jI s.1) → lv 3 = some (jI s.2) → ey (mm_xt L xs) 0 304 4 lv [] (jhm b m) r)) (fun x => (∀ lv : jL, lv 2 = some (jI x) → ey (mm_xt L xs) 0 304 38 lv [] (jhm b m) r)) o) : ∀ lv : jL, lv 0 = some (jR (some 76)) → lv 1 = some (jI x1) → lv 3 = some (jI x3) → ey (mm_xt L xs) 0 304 31 lv [jI y0] (jhm b m) r := by
  intro lv f0 f1 f3
  unfold jd_304_b31 at e
  refine ey_istore_n (cd_304 rfl) mt_304 rfl ?_
  refine ey_iinc (cd_304 rfl) mt_304 rfl f3 ?_
  refine ey_goto (cd_304 rfl) rfl ?_
  cases e
  exact K (jup (jup lv 2 (jI y0)) 3 (jI (x3 + 1))) f0 (jup_o rfl (jup_pi (lv := lv) (j := 1) (v := jI y0) (z := x1) f1)) (jup_pi (lv := (jup lv 2 (jI y0))) (j := 2) (v := jI (x3 + 1)) (z := y0) rfl) rfl
set_option maxRecDepth 100000 in
theorem jk_304_s4 {L : Nat} {xs : Nat → Int32} {b : jH} (hb : 152 ≤ b.1) (h6 : b.1 ≤ 1000000) {x1 : Int} {x2 : Int} {x3 : Int} {m : jM} {o : ((Int × Int) ⊕ Int)} {r : mm_R} (e : jd_304_s4 x1 x2 x3 m = some o) (K : jsm (fun s => (∀ lv : jL, lv 0 = some (jR (some 76)) → lv 1 = some (jI x1) → lv 2 = some (jI s.1) → lv 3 = some (jI s.2) → ey (mm_xt L xs) 0 304 4 lv [] (jhm b m) r)) (fun x => (∀ lv : jL, lv 2 = some (jI x) → ey (mm_xt L xs) 0 304 38 lv [] (jhm b m) r)) o) : ∀ lv : jL, lv 0 = some (jR (some 76)) → lv 1 = some (jI x1) → lv 2 = some (jI x2) → lv 3 = some (jI x3) → ey (mm_xt L xs) 0 304 4 lv [] (jhm b m) r := by
  intro lv f0 f1 f2 f3
  unfold jd_304_s4 at e
  refine ey_iload_n (cd_304 rfl) f3 ?_
  refine ey_aload_n (cd_304 rfl) f0 ?_
  refine ey_getf_i (z := (m 76 35)) (cd_304 rfl) mt_304 rfl rfl rfl (jhm_gi hb 35) ?_
  by_cases q1 : (jw (m 76 35)) ≤ (jw x3)
  · rw [if_pos q1] at e
    refine ey_cge (cd_304 rfl) rfl rfl rfl q1 ?_
    cases e
    exact K lv f2
  · rw [if_neg q1] at e
    refine ey_nge (cd_304 rfl) rfl rfl rfl q1 ?_
    refine ey_iload_n (cd_304 rfl) f2 ?_
    by_cases q2 : (jw x2) = 0
    · rw [if_pos q2] at e
      refine ey_yne (cd_304 rfl) rfl rfl (fun w => w q2) ?_
      refine ey_aload_n (cd_304 rfl) f0 ?_
      refine ey_getf_r (cd_304 rfl) mt_304 rfl rfl rfl (jhm_gr (q := 103) hb rfl) ?_
      refine ey_iload_n (cd_304 rfl) f3 ?_
      obtain ⟨v3, e4, e⟩ := jbind e
      refine ey_iald (cd_304 rfl) (jhm_ai hb h6 (by decide) rfl e4) ?_
      refine ey_iload_n (cd_304 rfl) f1 ?_
      have K5 : ∀ lv : jL, lv 0 = some (jR (some 76)) → lv 1 = some (jI x1) → lv 3 = some (jI x3) → ey (mm_xt L xs) 0 304 31 lv [jI (if (jw v3) = (jw x1) then 1 else 0)] (jhm b m) r := by
        intro lv g0 g1 g3
        exact jk_304_b31 hb h6 e K lv g0 g1 g3
      by_cases q6 : (jw v3) = (jw x1)
      · refine ey_nne (cd_304 rfl) rfl rfl rfl (fun w => w q6) ?_
        refine ey_iconst (cd_304 rfl) ?_
        refine ey_goto (cd_304 rfl) rfl ?_
        exact ey_rs (s0 := [jI 1]) (s1 := [jI (if (jw v3) = (jw x1) then 1 else 0)]) (by rw [show ((if (jw v3) = (jw x1) then 1 else 0) : Int) = 1 from (if_pos q6)]) (K5 lv f0 f1 f3)
      · refine ey_cne (cd_304 rfl) rfl rfl rfl q6 ?_
        refine ey_iconst (cd_304 rfl) ?_
        exact ey_rs (s0 := [jI 0]) (s1 := [jI (if (jw v3) = (jw x1) then 1 else 0)]) (by rw [show ((if (jw v3) = (jw x1) then 1 else 0) : Int) = 0 from (if_neg q6)]) (K5 lv f0 f1 f3)
    · rw [if_neg q2] at e
      refine ey_zne (cd_304 rfl) rfl rfl q2 ?_
      refine ey_iconst (cd_304 rfl) ?_
      refine ey_goto (cd_304 rfl) rfl ?_
      exact jk_304_b31 hb h6 e K lv f0 f1 f3
theorem jk_304_l4 {L : Nat} {xs : Nat → Int32} {b : jH} (hb : 152 ≤ b.1) (h6 : b.1 ≤ 1000000) {x1 : Int} {x2 : Int} {x3 : Int} {m : jM} {x : Int} {r : mm_R} (e : jd_304_l4 x1 x2 x3 m = some x) (K : (∀ lv : jL, lv 2 = some (jI x) → ey (mm_xt L xs) 0 304 38 lv [] (jhm b m) r)) : ∀ lv : jL, lv 0 = some (jR (some 76)) → lv 1 = some (jI x1) → lv 2 = some (jI x2) → lv 3 = some (jI x3) → ey (mm_xt L xs) 0 304 4 lv [] (jhm b m) r := by
  unfold jd_304_l4 at e
  exact jlp_ok2 (P := fun s => ∀ lv : jL, lv 0 = some (jR (some 76)) → lv 1 = some (jI x1) → lv 2 = some (jI s.1) → lv 3 = some (jI s.2) → ey (mm_xt L xs) 0 304 4 lv [] (jhm b m) r) (Q := fun x => (∀ lv : jL, lv 2 = some (jI x) → ey (mm_xt L xs) 0 304 38 lv [] (jhm b m) r)) (fun s q hq hk => jk_304_s4 hb h6 hq hk) jfu _ x e K
set_option maxRecDepth 100000 in
theorem ok_304 {L : Nat} {xs : Nat → Int32} {b : jH} (hb : 152 ≤ b.1) (h6 : b.1 ≤ 1000000) {p0 : Int} {m : jM} {o : Int} (e : jd_304 p0 m = some o) : mm_Runs (mm_xt L xs) 1 304 ([jR (some 76), jI p0].map jcv) (jaH (jhm b m)) (.inl (some (jcv (jI o)), jaH (jhm b m))) := by
  refine ey_run0 _ mt_304 (jsl_s rfl) ?_
  unfold jd_304 at e
  refine ey_iconst (cd_304 rfl) ?_
  refine ey_istore_n (cd_304 rfl) mt_304 rfl ?_
  refine ey_iconst (cd_304 rfl) ?_
  refine ey_istore_n (cd_304 rfl) mt_304 rfl ?_
  obtain ⟨x7, e8, e⟩ := jbind e
  refine jk_304_l4 hb h6 e8 ?_ (jup (jup (jlf (jla 0 [jR (some 76), jI p0])) 2 (jI 0)) 3 (jI 0)) rfl (jup_o rfl (jup_pi (lv := (jlf (jla 0 [jR (some 76), jI p0]))) (j := 1) (v := jI 0) (z := p0) rfl)) (jup_pi (lv := (jup (jlf (jla 0 [jR (some 76), jI p0])) 2 (jI 0))) (j := 2) (v := jI 0) (z := 0) rfl) rfl
  intro lv g2
  refine ey_iload_n (cd_304 rfl) g2 ?_
  obtain ⟨u9, e10, e⟩ := jbind e
  cases e
  exact ey_retz (cd_304 rfl) mt_304 rfl (jbc_s e10)
theorem cd_305 {pc : Nat} {i : Instr × Nat} (h : mm_lk mm_c305 pc = some i) : mm_cd 305 pc = some i := h
theorem mt_305 : mm_MT 305 = (12, 5, some .boolean, 3, 0, []) := rfl
set_option maxRecDepth 100000 in
theorem jk_305_b21 {L : Nat} {xs : Nat → Int32} {b : jH} (hb : 152 ≤ b.1) (h6 : b.1 ≤ 1000000)  {m : jM} {o : Int} (e : jd_305_b21  m = some o) : ∀ lv : jL, ey (mm_xt L xs) 1 305 21 lv [] (jhm b m) (.inl (some (jcv (jI o)), jaH (jhm b m))) := by
  intro lv 
  unfold jd_305_b21 at e
  refine ey_iconst (cd_305 rfl) ?_
  cases e
  exact ey_retz (cd_305 rfl) mt_305 rfl (Or.inl rfl)
set_option maxRecDepth 100000 in
theorem jk_305_b96 {L : Nat} {xs : Nat → Int32} {b : jH} (hb : 152 ≤ b.1) (h6 : b.1 ≤ 1000000) {y0 : Int} {m : jM} {o : Int} (e : jd_305_b96 y0 m = some o) : ∀ lv : jL, ey (mm_xt L xs) 1 305 96 lv [jI y0] (jhm b m) (.inl (some (jcv (jI o)), jaH (jhm b m))) := by
  intro lv 
  unfold jd_305_b96 at e
  obtain ⟨u13, e14, e⟩ := jbind e
  cases e
  exact ey_retz (cd_305 rfl) mt_305 rfl (jbc_s e14)
set_option maxRecDepth 100000 in
theorem jk_305_b61 {L : Nat} {xs : Nat → Int32} {b : jH} (hb : 152 ≤ b.1) (h6 : b.1 ≤ 1000000) {y0 : Int} {m : jM} {o : Int} (e : jd_305_b61 y0 m = some o) : ∀ lv : jL, ey (mm_xt L xs) 1 305 61 lv [jI y0] (jhm b m) (.inl (some (jcv (jI o)), jaH (jhm b m))) := by
  intro lv 
  unfold jd_305_b61 at e
  obtain ⟨u20, e21, e⟩ := jbind e
  cases e
  exact ey_retz (cd_305 rfl) mt_305 rfl (jbc_s e21)
set_option maxRecDepth 100000 in
theorem ok_305 {L : Nat} {xs : Nat → Int32} {b : jH} (hb : 152 ≤ b.1) (h6 : b.1 ≤ 1000000) {p0 : Int} {p1 : Int} {p2 : Int} {m : jM} {o : Int} (e : jd_305 p0 p1 p2 m = some o) : mm_Runs (mm_xt L xs) 2 305 ([jR (some 76), jI p0, jI p1, jI p2].map jcv) (jaH (jhm b m)) (.inl (some (jcv (jI o)), jaH (jhm b m))) := by
  refine ey_run0 _ mt_305 (jsl_s rfl) ?_
  unfold jd_305 at e
  refine ey_iload_n (cd_305 rfl) rfl ?_
  refine ey_i2l (cd_305 rfl) ?_
  refine ey_lconst0 (cd_305 rfl) ?_
  refine ey_iload_n (cd_305 rfl) rfl ?_
  refine ey_iconst (cd_305 rfl) ?_
  refine ey_isub (cd_305 rfl) ?_
  refine ey_i2l (cd_305 rfl) ?_
  refine ey_cs (s0 := [jJ (jw (p2 - 1)), jJ 0, jJ (jw p1)]) (s1 := []) (st' := [jI (jd_204 (jw p1) 0 (jw (p2 - 1)))]) (cd_305 rfl) mt_305 mt_204 rfl (by decide) rfl rfl (jsml_s rfl) rfl (ok_204 ) ?_
  by_cases q1 : (jw (jd_204 (jw p1) 0 (jw (p2 - 1)))) = 0
  · rw [if_pos q1] at e
    refine ey_zeq (cd_305 rfl) rfl rfl q1 ?_
    exact jk_305_b21 hb h6 e (jlf (jla 0 [jR (some 76), jI p0, jI p1, jI p2])) 
  · rw [if_neg q1] at e
    refine ey_yeq (cd_305 rfl) rfl rfl q1 ?_
    refine ey_aload_n (cd_305 rfl) rfl ?_
    refine ey_iload_n (cd_305 rfl) rfl ?_
    obtain ⟨v2, e3, e⟩ := jbind e
    refine ey_cv (s0 := [jI p1, jR (some 76)]) (s1 := []) (st' := [jI v2]) (cd_305 rfl) mt_305 mt_304 rfl rfl rfl (jhm_is hb) rfl (jsml_s rfl) rfl (ok_304 hb h6 e3) ?_
    by_cases q4 : (jw v2) = 0
    · rw [if_pos q4] at e
      refine ey_zeq (cd_305 rfl) rfl rfl q4 ?_
      refine ey_aload_n (cd_305 rfl) rfl ?_
      refine ey_aload_n (cd_305 rfl) rfl ?_
      refine ey_getf_i (z := (m 76 35)) (cd_305 rfl) mt_305 rfl rfl rfl (jhm_gi hb 35) ?_
      refine ey_iconst (cd_305 rfl) ?_
      obtain ⟨v5, e6, e⟩ := jbind e
      refine ey_cv (s0 := [jI 1, jI (m 76 35), jR (some 76)]) (s1 := []) (st' := [jI v5]) (cd_305 rfl) mt_305 mt_239 rfl rfl rfl (jhm_is hb) rfl (jsml_s rfl) rfl (ok_239 hb h6 e6) ?_
      refine ey_istore (cd_305 rfl) mt_305 rfl ?_
      refine ey_iload_n (cd_305 rfl) rfl ?_
      refine ey_iconst (cd_305 rfl) ?_
      by_cases q7 : (jw p0) = 2
      · rw [if_pos q7] at e
        refine ey_ceq (cd_305 rfl) rfl rfl (show jw 2 = 2 from by decide) q7 ?_
        refine ey_iload_n (cd_305 rfl) rfl ?_
        refine ey_aload_n (cd_305 rfl) rfl ?_
        refine ey_getf_r (cd_305 rfl) mt_305 rfl rfl rfl (jhm_gr (q := 103) hb rfl) ?_
        refine ey_aload_n (cd_305 rfl) rfl ?_
        refine ey_aload_n (cd_305 rfl) rfl ?_
        refine ey_getf_i (z := (m 76 35)) (cd_305 rfl) mt_305 rfl rfl rfl (jhm_gi hb 35) ?_
        refine ey_iconst (cd_305 rfl) ?_
        obtain ⟨v8, e9, e⟩ := jbind e
        refine ey_cv (s0 := [jI 2, jI (m 76 35), jR (some 76), jR (some 103), jI p1]) (s1 := [jR (some 103), jI p1]) (st' := [jI v8, jR (some 103), jI p1]) (cd_305 rfl) mt_305 mt_239 rfl rfl rfl (jhm_is hb) rfl (jsml_s rfl) rfl (ok_239 hb h6 e9) ?_
        obtain ⟨v10, e11, e⟩ := jbind e
        refine ey_iald (cd_305 rfl) (jhm_ai hb h6 (by decide) rfl e11) ?_
        by_cases q12 : (jw p1) ≤ (jw v10)
        · rw [if_pos q12] at e
          refine ey_cle (cd_305 rfl) rfl rfl rfl q12 ?_
          refine ey_iconst (cd_305 rfl) ?_
          exact jk_305_b96 hb h6 e (jup (jlf (jla 0 [jR (some 76), jI p0, jI p1, jI p2])) 4 (jI v5)) 
        · rw [if_neg q12] at e
          refine ey_nle (cd_305 rfl) rfl rfl rfl q12 ?_
          refine ey_iload_n (cd_305 rfl) rfl ?_
          refine ey_aload_n (cd_305 rfl) rfl ?_
          refine ey_getf_r (cd_305 rfl) mt_305 rfl rfl rfl (jhm_gr (q := 103) hb rfl) ?_
          refine ey_iload (cd_305 rfl) rfl ?_
          obtain ⟨v15, e16, e⟩ := jbind e
          refine ey_iald (cd_305 rfl) (jhm_ai hb h6 (by decide) rfl e16) ?_
          have K17 : ∀ lv : jL, ey (mm_xt L xs) 1 305 96 lv [jI (if (jw v15) ≤ (jw p1) then 0 else 1)] (jhm b m) (.inl (some (jcv (jI o)), jaH (jhm b m))) := by
            intro lv 
            exact jk_305_b96 hb h6 e lv 
          by_cases q18 : (jw v15) ≤ (jw p1)
          · refine ey_cge (cd_305 rfl) rfl rfl rfl q18 ?_
            refine ey_iconst (cd_305 rfl) ?_
            exact ey_rs (s0 := [jI 0]) (s1 := [jI (if (jw v15) ≤ (jw p1) then 0 else 1)]) (by rw [show ((if (jw v15) ≤ (jw p1) then 0 else 1) : Int) = 0 from (if_pos q18)]) (K17 (jup (jlf (jla 0 [jR (some 76), jI p0, jI p1, jI p2])) 4 (jI v5)) )
          · refine ey_nge (cd_305 rfl) rfl rfl rfl q18 ?_
            refine ey_iconst (cd_305 rfl) ?_
            refine ey_goto (cd_305 rfl) rfl ?_
            exact ey_rs (s0 := [jI 1]) (s1 := [jI (if (jw v15) ≤ (jw p1) then 0 else 1)]) (by rw [show ((if (jw v15) ≤ (jw p1) then 0 else 1) : Int) = 1 from (if_neg q18)]) (K17 (jup (jlf (jla 0 [jR (some 76), jI p0, jI p1, jI p2])) 4 (jI v5)) )
      · rw [if_neg q7] at e
        refine ey_neq (cd_305 rfl) rfl rfl (show jw 2 = 2 from by decide) q7 ?_
        refine ey_iload (cd_305 rfl) rfl ?_
        refine ey_iconst (cd_305 rfl) ?_
        by_cases q19 : (jw v5) = (-1)
        · rw [if_pos q19] at e
          refine ey_ceq (cd_305 rfl) rfl rfl (show jw (-1) = (-1) from by decide) q19 ?_
          refine ey_iconst (cd_305 rfl) ?_
          refine ey_goto (cd_305 rfl) rfl ?_
          exact jk_305_b61 hb h6 e (jup (jlf (jla 0 [jR (some 76), jI p0, jI p1, jI p2])) 4 (jI v5)) 
        · rw [if_neg q19] at e
          refine ey_neq (cd_305 rfl) rfl rfl (show jw (-1) = (-1) from by decide) q19 ?_
          refine ey_iload_n (cd_305 rfl) rfl ?_
          refine ey_aload_n (cd_305 rfl) rfl ?_
          refine ey_getf_r (cd_305 rfl) mt_305 rfl rfl rfl (jhm_gr (q := 103) hb rfl) ?_
          refine ey_iload (cd_305 rfl) rfl ?_
          obtain ⟨v22, e23, e⟩ := jbind e
          refine ey_iald (cd_305 rfl) (jhm_ai hb h6 (by decide) rfl e23) ?_
          have K24 : ∀ lv : jL, ey (mm_xt L xs) 1 305 61 lv [jI (if (jw p1) ≤ (jw v22) then 0 else 1)] (jhm b m) (.inl (some (jcv (jI o)), jaH (jhm b m))) := by
            intro lv 
            exact jk_305_b61 hb h6 e lv 
          by_cases q25 : (jw p1) ≤ (jw v22)
          · refine ey_cle (cd_305 rfl) rfl rfl rfl q25 ?_
            refine ey_iconst (cd_305 rfl) ?_
            exact ey_rs (s0 := [jI 0]) (s1 := [jI (if (jw p1) ≤ (jw v22) then 0 else 1)]) (by rw [show ((if (jw p1) ≤ (jw v22) then 0 else 1) : Int) = 0 from (if_pos q25)]) (K24 (jup (jlf (jla 0 [jR (some 76), jI p0, jI p1, jI p2])) 4 (jI v5)) )
          · refine ey_nle (cd_305 rfl) rfl rfl rfl q25 ?_
            refine ey_iconst (cd_305 rfl) ?_
            refine ey_goto (cd_305 rfl) rfl ?_
            exact ey_rs (s0 := [jI 1]) (s1 := [jI (if (jw p1) ≤ (jw v22) then 0 else 1)]) (by rw [show ((if (jw p1) ≤ (jw v22) then 0 else 1) : Int) = 1 from (if_neg q25)]) (K24 (jup (jlf (jla 0 [jR (some 76), jI p0, jI p1, jI p2])) 4 (jI v5)) )
    · rw [if_neg q4] at e
      refine ey_yeq (cd_305 rfl) rfl rfl q4 ?_
      exact jk_305_b21 hb h6 e (jlf (jla 0 [jR (some 76), jI p0, jI p1, jI p2])) 
theorem cd_306 {pc : Nat} {i : Instr × Nat} (h : mm_lk mm_c306 pc = some i) : mm_cd 306 pc = some i := h
theorem mt_306 : mm_MT 306 = (12, 5, some .boolean, 2, 0, []) := rfl
set_option maxRecDepth 100000 in
theorem jk_306_b46 {L : Nat} {xs : Nat → Int32} {b : jH} (hb : 152 ≤ b.1) (h6 : b.1 ≤ 1000000)  {m : jM} {o : Int} (e : jd_306_b46  m = some o) : ∀ lv : jL, ey (mm_xt L xs) 2 306 46 lv [] (jhm b m) (.inl (some (jcv (jI o)), jaH (jhm b m))) := by
  intro lv 
  unfold jd_306_b46 at e
  refine ey_iconst (cd_306 rfl) ?_
  cases e
  exact ey_retz (cd_306 rfl) mt_306 rfl (Or.inl rfl)
set_option maxRecDepth 100000 in
theorem jk_306_b99 {L : Nat} {xs : Nat → Int32} {b : jH} (hb : 152 ≤ b.1) (h6 : b.1 ≤ 1000000) {x1 : Int} {x2 : Int} {x4 : Int} {y0 : Int} {m : jM} {o : ((Int × Int) ⊕ Int)} {r : mm_R} (e : jd_306_b99 x1 x2 x4 y0 m = some o) (K : jsm (fun s => (∀ lv : jL, lv 0 = some (jR (some 76)) → lv 1 = some (jI x1) → lv 2 = some (jI x2) → lv 3 = some (jI s.1) → lv 4 = some (jI s.2) → ey (mm_xt L xs) 2 306 73 lv [] (jhm b m) r)) (fun x => (∀ lv : jL, lv 3 = some (jI x) → ey (mm_xt L xs) 2 306 106 lv [] (jhm b m) r)) o) : ∀ lv : jL, lv 0 = some (jR (some 76)) → lv 1 = some (jI x1) → lv 2 = some (jI x2) → lv 4 = some (jI x4) → ey (mm_xt L xs) 2 306 99 lv [jI y0] (jhm b m) r := by
  intro lv f0 f1 f2 f4
  unfold jd_306_b99 at e
  refine ey_istore_n (cd_306 rfl) mt_306 rfl ?_
  refine ey_iinc (cd_306 rfl) mt_306 rfl f4 ?_
  refine ey_goto (cd_306 rfl) rfl ?_
  cases e
  exact K (jup (jup lv 3 (jI y0)) 4 (jI (x4 + 1))) f0 f1 (jup_o rfl (jup_pi (lv := lv) (j := 2) (v := jI y0) (z := x2) f2)) (jup_pi (lv := (jup lv 3 (jI y0))) (j := 3) (v := jI (x4 + 1)) (z := y0) rfl) rfl
set_option maxRecDepth 100000 in
theorem jk_306_s73 {L : Nat} {xs : Nat → Int32} {b : jH} (hb : 152 ≤ b.1) (h6 : b.1 ≤ 1000000) {x1 : Int} {x2 : Int} {x3 : Int} {x4 : Int} {m : jM} {o : ((Int × Int) ⊕ Int)} {r : mm_R} (e : jd_306_s73 x1 x2 x3 x4 m = some o) (K : jsm (fun s => (∀ lv : jL, lv 0 = some (jR (some 76)) → lv 1 = some (jI x1) → lv 2 = some (jI x2) → lv 3 = some (jI s.1) → lv 4 = some (jI s.2) → ey (mm_xt L xs) 2 306 73 lv [] (jhm b m) r)) (fun x => (∀ lv : jL, lv 3 = some (jI x) → ey (mm_xt L xs) 2 306 106 lv [] (jhm b m) r)) o) : ∀ lv : jL, lv 0 = some (jR (some 76)) → lv 1 = some (jI x1) → lv 2 = some (jI x2) → lv 3 = some (jI x3) → lv 4 = some (jI x4) → ey (mm_xt L xs) 2 306 73 lv [] (jhm b m) r := by
  intro lv f0 f1 f2 f3 f4
  unfold jd_306_s73 at e
  refine ey_iload (cd_306 rfl) f4 ?_
  refine ey_iload_n (cd_306 rfl) f2 ?_
  by_cases q13 : (jw x2) ≤ (jw x4)
  · rw [if_pos q13] at e
    refine ey_cge (cd_306 rfl) rfl rfl rfl q13 ?_
    cases e
    exact K lv f3
  · rw [if_neg q13] at e
    refine ey_nge (cd_306 rfl) rfl rfl rfl q13 ?_
    refine ey_iload_n (cd_306 rfl) f3 ?_
    by_cases q14 : (jw x3) = 0
    · rw [if_pos q14] at e
      refine ey_yne (cd_306 rfl) rfl rfl (fun w => w q14) ?_
      refine ey_aload_n (cd_306 rfl) f0 ?_
      refine ey_iload_n (cd_306 rfl) f1 ?_
      refine ey_iload (cd_306 rfl) f4 ?_
      refine ey_iload_n (cd_306 rfl) f2 ?_
      obtain ⟨v15, e16, e⟩ := jbind e
      refine ey_cv (s0 := [jI x2, jI x4, jI x1, jR (some 76)]) (s1 := []) (st' := [jI v15]) (cd_306 rfl) mt_306 mt_305 rfl rfl rfl (jhm_is hb) rfl (jsml_s rfl) rfl (ok_305 hb h6 e16) ?_
      have K17 : ∀ lv : jL, lv 0 = some (jR (some 76)) → lv 1 = some (jI x1) → lv 2 = some (jI x2) → lv 4 = some (jI x4) → ey (mm_xt L xs) 2 306 99 lv [jI (if (jw v15) = 0 then 0 else 1)] (jhm b m) r := by
        intro lv g0 g1 g2 g4
        exact jk_306_b99 hb h6 e K lv g0 g1 g2 g4
      by_cases q18 : (jw v15) = 0
      · refine ey_zeq (cd_306 rfl) rfl rfl q18 ?_
        refine ey_iconst (cd_306 rfl) ?_
        exact ey_rs (s0 := [jI 0]) (s1 := [jI (if (jw v15) = 0 then 0 else 1)]) (by rw [show ((if (jw v15) = 0 then 0 else 1) : Int) = 0 from (if_pos q18)]) (K17 lv f0 f1 f2 f4)
      · refine ey_yeq (cd_306 rfl) rfl rfl q18 ?_
        refine ey_iconst (cd_306 rfl) ?_
        refine ey_goto (cd_306 rfl) rfl ?_
        exact ey_rs (s0 := [jI 1]) (s1 := [jI (if (jw v15) = 0 then 0 else 1)]) (by rw [show ((if (jw v15) = 0 then 0 else 1) : Int) = 1 from (if_neg q18)]) (K17 lv f0 f1 f2 f4)
    · rw [if_neg q14] at e
      refine ey_zne (cd_306 rfl) rfl rfl q14 ?_
      refine ey_iconst (cd_306 rfl) ?_
      refine ey_goto (cd_306 rfl) rfl ?_
      exact jk_306_b99 hb h6 e K lv f0 f1 f2 f4
theorem jk_306_l73 {L : Nat} {xs : Nat → Int32} {b : jH} (hb : 152 ≤ b.1) (h6 : b.1 ≤ 1000000) {x1 : Int} {x2 : Int} {x3 : Int} {x4 : Int} {m : jM} {x : Int} {r : mm_R} (e : jd_306_l73 x1 x2 x3 x4 m = some x) (K : (∀ lv : jL, lv 3 = some (jI x) → ey (mm_xt L xs) 2 306 106 lv [] (jhm b m) r)) : ∀ lv : jL, lv 0 = some (jR (some 76)) → lv 1 = some (jI x1) → lv 2 = some (jI x2) → lv 3 = some (jI x3) → lv 4 = some (jI x4) → ey (mm_xt L xs) 2 306 73 lv [] (jhm b m) r := by
  unfold jd_306_l73 at e
  exact jlp_ok2 (P := fun s => ∀ lv : jL, lv 0 = some (jR (some 76)) → lv 1 = some (jI x1) → lv 2 = some (jI x2) → lv 3 = some (jI s.1) → lv 4 = some (jI s.2) → ey (mm_xt L xs) 2 306 73 lv [] (jhm b m) r) (Q := fun x => (∀ lv : jL, lv 3 = some (jI x) → ey (mm_xt L xs) 2 306 106 lv [] (jhm b m) r)) (fun s q hq hk => jk_306_s73 hb h6 hq hk) jfu _ x e K
set_option maxRecDepth 100000 in
theorem jk_306_b68 {L : Nat} {xs : Nat → Int32} {b : jH} (hb : 152 ≤ b.1) (h6 : b.1 ≤ 1000000) {x1 : Int} {x2 : Int} {m : jM} {o : Int} (e : jd_306_b68 x1 x2 m = some o) : ∀ lv : jL, lv 0 = some (jR (some 76)) → lv 1 = some (jI x1) → lv 2 = some (jI x2) → ey (mm_xt L xs) 2 306 68 lv [] (jhm b m) (.inl (some (jcv (jI o)), jaH (jhm b m))) := by
  intro lv f0 f1 f2
  unfold jd_306_b68 at e
  refine ey_iconst (cd_306 rfl) ?_
  refine ey_istore_n (cd_306 rfl) mt_306 rfl ?_
  refine ey_iconst (cd_306 rfl) ?_
  refine ey_istore (cd_306 rfl) mt_306 rfl ?_
  obtain ⟨x19, e20, e⟩ := jbind e
  refine jk_306_l73 hb h6 e20 ?_ (jup (jup lv 3 (jI 0)) 4 (jI 0)) f0 f1 (jup_o rfl (jup_pi (lv := lv) (j := 2) (v := jI 0) (z := x2) f2)) (jup_pi (lv := (jup lv 3 (jI 0))) (j := 3) (v := jI 0) (z := 0) rfl) rfl
  intro lv g3
  refine ey_iload_n (cd_306 rfl) g3 ?_
  obtain ⟨u21, e22, e⟩ := jbind e
  cases e
  exact ey_retz (cd_306 rfl) mt_306 rfl (jbc_s e22)
set_option maxRecDepth 100000 in
theorem jk_306_b48 {L : Nat} {xs : Nat → Int32} {b : jH} (hb : 152 ≤ b.1) (h6 : b.1 ≤ 1000000) {x1 : Int} {x2 : Int} {m : jM} {o : Int} (e : jd_306_b48 x1 x2 m = some o) : ∀ lv : jL, lv 0 = some (jR (some 76)) → lv 1 = some (jI x1) → lv 2 = some (jI x2) → ey (mm_xt L xs) 2 306 48 lv [] (jhm b m) (.inl (some (jcv (jI o)), jaH (jhm b m))) := by
  intro lv f0 f1 f2
  unfold jd_306_b48 at e
  refine ey_iload_n (cd_306 rfl) f1 ?_
  refine ey_iconst (cd_306 rfl) ?_
  by_cases q9 : (jw x1) = 2
  · rw [if_pos q9] at e
    refine ey_nne (cd_306 rfl) rfl rfl (show jw 2 = 2 from by decide) (fun w => w q9) ?_
    refine ey_aload_n (cd_306 rfl) f0 ?_
    refine ey_aload_n (cd_306 rfl) f0 ?_
    refine ey_getf_i (z := (m 76 35)) (cd_306 rfl) mt_306 rfl rfl rfl (jhm_gi hb 35) ?_
    refine ey_iconst (cd_306 rfl) ?_
    obtain ⟨v10, e11, e⟩ := jbind e
    refine ey_cv (s0 := [jI 2, jI (m 76 35), jR (some 76)]) (s1 := []) (st' := [jI v10]) (cd_306 rfl) mt_306 mt_239 rfl rfl rfl (jhm_is hb) rfl (jsml_s rfl) rfl (mm_Runs.up (d := 1) (by decide) (ok_239 hb h6 e11)) ?_
    refine ey_iconst (cd_306 rfl) ?_
    by_cases q12 : (jw v10) = (-1)
    · rw [if_pos q12] at e
      refine ey_nne (cd_306 rfl) rfl rfl (show jw (-1) = (-1) from by decide) (fun w => w q12) ?_
      refine ey_iconst (cd_306 rfl) ?_
      cases e
      exact ey_retz (cd_306 rfl) mt_306 rfl (Or.inl rfl)
    · rw [if_neg q12] at e
      refine ey_cne (cd_306 rfl) rfl rfl (show jw (-1) = (-1) from by decide) q12 ?_
      exact jk_306_b68 hb h6 e lv f0 f1 f2
  · rw [if_neg q9] at e
    refine ey_cne (cd_306 rfl) rfl rfl (show jw 2 = 2 from by decide) q9 ?_
    exact jk_306_b68 hb h6 e lv f0 f1 f2
set_option maxRecDepth 100000 in
theorem jk_306_b33 {L : Nat} {xs : Nat → Int32} {b : jH} (hb : 152 ≤ b.1) (h6 : b.1 ≤ 1000000) {x1 : Int} {x2 : Int} {m : jM} {o : Int} (e : jd_306_b33 x1 x2 m = some o) : ∀ lv : jL, lv 0 = some (jR (some 76)) → lv 1 = some (jI x1) → lv 2 = some (jI x2) → ey (mm_xt L xs) 2 306 33 lv [] (jhm b m) (.inl (some (jcv (jI o)), jaH (jhm b m))) := by
  intro lv f0 f1 f2
  unfold jd_306_b33 at e
  refine ey_aload_n (cd_306 rfl) f0 ?_
  refine ey_getf_i (z := (m 76 32)) (cd_306 rfl) mt_306 rfl rfl rfl (jhm_gi hb 32) ?_
  refine ey_iconst (cd_306 rfl) ?_
  by_cases q7 : (jw (m 76 32)) = 2
  · rw [if_pos q7] at e
    refine ey_nne (cd_306 rfl) rfl rfl (show jw 2 = 2 from by decide) (fun w => w q7) ?_
    refine ey_iload_n (cd_306 rfl) f1 ?_
    refine ey_iconst (cd_306 rfl) ?_
    by_cases q8 : (jw x1) = 2
    · rw [if_pos q8] at e
      refine ey_nne (cd_306 rfl) rfl rfl (show jw 2 = 2 from by decide) (fun w => w q8) ?_
      exact jk_306_b46 hb h6 e lv 
    · rw [if_neg q8] at e
      refine ey_cne (cd_306 rfl) rfl rfl (show jw 2 = 2 from by decide) q8 ?_
      exact jk_306_b48 hb h6 e lv f0 f1 f2
  · rw [if_neg q7] at e
    refine ey_cne (cd_306 rfl) rfl rfl (show jw 2 = 2 from by decide) q7 ?_
    exact jk_306_b48 hb h6 e lv f0 f1 f2
set_option maxRecDepth 100000 in
theorem jk_306_b21 {L : Nat} {xs : Nat → Int32} {b : jH} (hb : 152 ≤ b.1) (h6 : b.1 ≤ 1000000) {x1 : Int} {x2 : Int} {m : jM} {o : Int} (e : jd_306_b21 x1 x2 m = some o) : ∀ lv : jL, lv 0 = some (jR (some 76)) → lv 1 = some (jI x1) → lv 2 = some (jI x2) → ey (mm_xt L xs) 2 306 21 lv [] (jhm b m) (.inl (some (jcv (jI o)), jaH (jhm b m))) := by
  intro lv f0 f1 f2
  unfold jd_306_b21 at e
  refine ey_aload_n (cd_306 rfl) f0 ?_
  refine ey_getf_i (z := (m 76 32)) (cd_306 rfl) mt_306 rfl rfl rfl (jhm_gi hb 32) ?_
  refine ey_iconst (cd_306 rfl) ?_
  by_cases q5 : (jw (m 76 32)) = 1
  · rw [if_pos q5] at e
    refine ey_nne (cd_306 rfl) rfl rfl (show jw 1 = 1 from by decide) (fun w => w q5) ?_
    refine ey_iload_n (cd_306 rfl) f1 ?_
    by_cases q6 : (jw x1) = 0
    · rw [if_pos q6] at e
      refine ey_yne (cd_306 rfl) rfl rfl (fun w => w q6) ?_
      exact jk_306_b33 hb h6 e lv f0 f1 f2
    · rw [if_neg q6] at e
      refine ey_zne (cd_306 rfl) rfl rfl q6 ?_
      exact jk_306_b46 hb h6 e lv 
  · rw [if_neg q5] at e
    refine ey_cne (cd_306 rfl) rfl rfl (show jw 1 = 1 from by decide) q5 ?_
    exact jk_306_b33 hb h6 e lv f0 f1 f2
set_option maxRecDepth 100000 in
theorem ok_306 {L : Nat} {xs : Nat → Int32} {b : jH} (hb : 152 ≤ b.1) (h6 : b.1 ≤ 1000000) {p0 : Int} {p1 : Int} {m : jM} {o : Int} (e : jd_306 p0 p1 m = some o) : mm_Runs (mm_xt L xs) 3 306 ([jR (some 76), jI p0, jI p1].map jcv) (jaH (jhm b m)) (.inl (some (jcv (jI o)), jaH (jhm b m))) := by
  refine ey_run0 _ mt_306 (jsl_s rfl) ?_
  unfold jd_306 at e
  refine ey_iload_n (cd_306 rfl) rfl ?_
  refine ey_iconst (cd_306 rfl) ?_
  by_cases q1 : (jw p0) = (-1)
  · rw [if_pos q1] at e
    refine ey_ceq (cd_306 rfl) rfl rfl (show jw (-1) = (-1) from by decide) q1 ?_
    exact jk_306_b46 hb h6 e (jlf (jla 0 [jR (some 76), jI p0, jI p1])) 
  · rw [if_neg q1] at e
    refine ey_neq (cd_306 rfl) rfl rfl (show jw (-1) = (-1) from by decide) q1 ?_
    refine ey_iload_n (cd_306 rfl) rfl ?_
    refine ey_iconst (cd_306 rfl) ?_
    by_cases q2 : 2 < (jw p0)
    · rw [if_pos q2] at e
      refine ey_cgt (cd_306 rfl) rfl rfl (show jw 2 = 2 from by decide) q2 ?_
      exact jk_306_b46 hb h6 e (jlf (jla 0 [jR (some 76), jI p0, jI p1])) 
    · rw [if_neg q2] at e
      refine ey_ngt (cd_306 rfl) rfl rfl (show jw 2 = 2 from by decide) q2 ?_
      refine ey_aload_n (cd_306 rfl) rfl ?_
      refine ey_getf_i (z := (m 76 35)) (cd_306 rfl) mt_306 rfl rfl rfl (jhm_gi hb 35) ?_
      by_cases q3 : (jw (m 76 35)) = 0
      · rw [if_pos q3] at e
        refine ey_yne (cd_306 rfl) rfl rfl (fun w => w q3) ?_
        refine ey_iload_n (cd_306 rfl) rfl ?_
        by_cases q4 : (jw p0) = 0
        · rw [if_pos q4] at e
          refine ey_yne (cd_306 rfl) rfl rfl (fun w => w q4) ?_
          exact jk_306_b21 hb h6 e (jlf (jla 0 [jR (some 76), jI p0, jI p1])) rfl rfl rfl
        · rw [if_neg q4] at e
          refine ey_zne (cd_306 rfl) rfl rfl q4 ?_
          exact jk_306_b46 hb h6 e (jlf (jla 0 [jR (some 76), jI p0, jI p1])) 
      · rw [if_neg q3] at e
        refine ey_zne (cd_306 rfl) rfl rfl q3 ?_
        exact jk_306_b21 hb h6 e (jlf (jla 0 [jR (some 76), jI p0, jI p1])) rfl rfl rfl
theorem cd_307 {pc : Nat} {i : Instr × Nat} (h : mm_lk mm_c307 pc = some i) : mm_cd 307 pc = some i := h
theorem mt_307 : mm_MT 307 = (12, 8, some .int, 2, 0, []) := rfl
set_option maxRecDepth 100000 in
theorem jk_307_b99 {L : Nat} {xs : Nat → Int32} {b : jH} (hb : 152 ≤ b.1) (h6 : b.1 ≤ 1000000) {x1 : Int} {m : jM} {o : (Int × jM)} (e : jd_307_b99 x1 m = some o) : ∀ lv : jL, lv 1 = some (jI x1) → ey (mm_xt L xs) 3 307 99 lv [] (jhm b m) (.inl (some (jcv (jI o.1)), jaH (jhm b o.2))) := by
  intro lv f1
  unfold jd_307_b99 at e
  refine ey_iload_n (cd_307 rfl) f1 ?_
  refine ey_iconst (cd_307 rfl) ?_
  refine ey_iadd (cd_307 rfl) ?_
  cases e
  exact ey_reti (cd_307 rfl) mt_307 rfl
set_option maxRecDepth 100000 in
theorem jk_307_b136 {L : Nat} {xs : Nat → Int32} {b : jH} (hb : 152 ≤ b.1) (h6 : b.1 ≤ 1000000) {x1 : Int} {m : jM} {o : (Int × jM)} (e : jd_307_b136 x1 m = some o) : ∀ lv : jL, lv 1 = some (jI x1) → ey (mm_xt L xs) 3 307 136 lv [] (jhm b m) (.inl (some (jcv (jI o.1)), jaH (jhm b o.2))) := by
  intro lv f1
  unfold jd_307_b136 at e
  refine ey_iload_n (cd_307 rfl) f1 ?_
  refine ey_iconst (cd_307 rfl) ?_
  refine ey_iadd (cd_307 rfl) ?_
  cases e
  exact ey_reti (cd_307 rfl) mt_307 rfl
set_option maxRecDepth 100000 in
theorem jk_307_b224 {L : Nat} {xs : Nat → Int32} {b : jH} (hb : 152 ≤ b.1) (h6 : b.1 ≤ 1000000) {y0 : Int} {m : jM} {o : (Int × jM)} (e : jd_307_b224 y0 m = some o) : ∀ lv : jL, ey (mm_xt L xs) 3 307 224 lv [jI y0] (jhm b m) (.inl (some (jcv (jI o.1)), jaH (jhm b o.2))) := by
  intro lv 
  unfold jd_307_b224 at e
  cases e
  exact ey_reti (cd_307 rfl) mt_307 rfl
set_option maxRecDepth 100000 in
theorem jk_307_b103 {L : Nat} {xs : Nat → Int32} {b : jH} (hb : 152 ≤ b.1) (h6 : b.1 ≤ 1000000) {x1 : Int} {x5 : Int} {m : jM} {o : (Int × jM)} (e : jd_307_b103 x1 x5 m = some o) : ∀ lv : jL, lv 0 = some (jR (some 76)) → lv 1 = some (jI x1) → lv 5 = some (jI x5) → ey (mm_xt L xs) 3 307 103 lv [] (jhm b m) (.inl (some (jcv (jI o.1)), jaH (jhm b o.2))) := by
  intro lv f0 f1 f5
  unfold jd_307_b103 at e
  refine ey_aload_n (cd_307 rfl) f0 ?_
  refine ey_getf_r (cd_307 rfl) mt_307 rfl rfl rfl (jhm_gr (q := 104) hb rfl) ?_
  refine ey_aload_n (cd_307 rfl) f0 ?_
  refine ey_getf_i (z := (m 76 35)) (cd_307 rfl) mt_307 rfl rfl rfl (jhm_gi hb 35) ?_
  refine ey_iload (cd_307 rfl) f5 ?_
  obtain ⟨m19, e20, e⟩ := jbind e
  refine ey_iast (cd_307 rfl) (jhm_ta hb (by decide) rfl e20) ?_
  refine ey_aload_n (cd_307 rfl) f0 ?_
  refine ey_iload_n (cd_307 rfl) f1 ?_
  refine ey_iconst (cd_307 rfl) ?_
  refine ey_iadd (cd_307 rfl) ?_
  obtain ⟨v21, e22, e⟩ := jbind e
  refine ey_cv (s0 := [jI (x1 + 3), jR (some 76)]) (s1 := []) (st' := [jI v21]) (cd_307 rfl) mt_307 mt_302 rfl rfl rfl (jhm_is hb) rfl (jsml_s rfl) rfl (mm_Runs.up (d := 1) (by decide) (ok_302 hb h6 e22)) ?_
  refine ey_istore (cd_307 rfl) mt_307 rfl ?_
  refine ey_iload (cd_307 rfl) rfl ?_
  refine ey_iconst (cd_307 rfl) ?_
  by_cases q23 : (jw v21) = (-1)
  · rw [if_pos q23] at e
    refine ey_ceq (cd_307 rfl) rfl rfl (show jw (-1) = (-1) from by decide) q23 ?_
    exact jk_307_b136 hb h6 e (jup lv 6 (jI v21)) f1
  · rw [if_neg q23] at e
    refine ey_neq (cd_307 rfl) rfl rfl (show jw (-1) = (-1) from by decide) q23 ?_
    refine ey_iload (cd_307 rfl) rfl ?_
    refine ey_bipush (cd_307 rfl) (by decide) ?_
    by_cases q24 : (jw v21) ≤ 7
    · rw [if_pos q24] at e
      refine ey_cle (cd_307 rfl) rfl rfl (show jw 7 = 7 from by decide) q24 ?_
      refine ey_aload_n (cd_307 rfl) f0 ?_
      refine ey_iload_n (cd_307 rfl) f1 ?_
      refine ey_iconst (cd_307 rfl) ?_
      refine ey_iadd (cd_307 rfl) ?_
      obtain ⟨v25, e26, e⟩ := jbind e
      refine ey_cv (s0 := [jI (x1 + 4), jR (some 76)]) (s1 := []) (st' := [jI v25]) (cd_307 rfl) mt_307 mt_302 rfl rfl rfl (jhm_is hb) rfl (jsml_s rfl) rfl (mm_Runs.up (d := 1) (by decide) (ok_302 hb h6 e26)) ?_
      refine ey_istore (cd_307 rfl) mt_307 rfl ?_
      refine ey_iload (cd_307 rfl) rfl ?_
      refine ey_iconst (cd_307 rfl) ?_
      by_cases q27 : (jw v25) = (-1)
      · rw [if_pos q27] at e
        refine ey_nne (cd_307 rfl) rfl rfl (show jw (-1) = (-1) from by decide) (fun w => w q27) ?_
        refine ey_iload_n (cd_307 rfl) f1 ?_
        refine ey_iconst (cd_307 rfl) ?_
        refine ey_iadd (cd_307 rfl) ?_
        cases e
        exact ey_reti (cd_307 rfl) mt_307 rfl
      · rw [if_neg q27] at e
        refine ey_cne (cd_307 rfl) rfl rfl (show jw (-1) = (-1) from by decide) q27 ?_
        refine ey_aload_n (cd_307 rfl) f0 ?_
        refine ey_getf_r (cd_307 rfl) mt_307 rfl rfl rfl (jhm_gr (q := 105) hb rfl) ?_
        refine ey_aload_n (cd_307 rfl) f0 ?_
        refine ey_getf_i (z := (m19 76 35)) (cd_307 rfl) mt_307 rfl rfl rfl (jhm_gi hb 35) ?_
        refine ey_sipush (cd_307 rfl) (by decide) ?_
        refine ey_iload (cd_307 rfl) (jup_pi (lv := (jup lv 6 (jI v21))) (j := 6) (v := jI v25) (z := v21) rfl) ?_
        refine ey_imul (cd_307 rfl) ?_
        refine ey_iload (cd_307 rfl) rfl ?_
        refine ey_iadd (cd_307 rfl) ?_
        obtain ⟨m28, e29, e⟩ := jbind e
        refine ey_iast (cd_307 rfl) (jhm_ta hb (by decide) rfl e29) ?_
        refine ey_aload_n (cd_307 rfl) f0 ?_
        refine ey_getf_r (cd_307 rfl) mt_307 rfl rfl rfl (jhm_gr (q := 105) hb rfl) ?_
        refine ey_aload_n (cd_307 rfl) f0 ?_
        refine ey_getf_i (z := (m28 76 35)) (cd_307 rfl) mt_307 rfl rfl rfl (jhm_gi hb 35) ?_
        obtain ⟨v30, e31, e⟩ := jbind e
        refine ey_iald (cd_307 rfl) (jhm_ai hb h6 (by decide) rfl e31) ?_
        refine ey_sipush (cd_307 rfl) (by decide) ?_
        by_cases q32 : (jw v30) ≤ 2000
        · rw [if_pos q32] at e
          refine ey_cle (cd_307 rfl) rfl rfl (show jw 2000 = 2000 from by decide) q32 ?_
          refine ey_iload_n (cd_307 rfl) f1 ?_
          refine ey_iconst (cd_307 rfl) ?_
          refine ey_iadd (cd_307 rfl) ?_
          refine ey_aload_n (cd_307 rfl) f0 ?_
          refine ey_getf_r (cd_307 rfl) mt_307 rfl rfl rfl (jhm_gr (q := 105) hb rfl) ?_
          refine ey_aload_n (cd_307 rfl) f0 ?_
          refine ey_getf_i (z := (m28 76 35)) (cd_307 rfl) mt_307 rfl rfl rfl (jhm_gi hb 35) ?_
          obtain ⟨v33, e34, e⟩ := jbind e
          refine ey_iald (cd_307 rfl) (jhm_ai hb h6 (by decide) rfl e34) ?_
          refine ey_iadd (cd_307 rfl) ?_
          refine ey_aload_n (cd_307 rfl) f0 ?_
          refine ey_getf_i (z := (m28 76 47)) (cd_307 rfl) mt_307 rfl rfl rfl (jhm_gi hb 47) ?_
          have K35 : ∀ lv : jL, ey (mm_xt L xs) 3 307 224 lv [jI (if (jw ((x1 + 5) + v33)) ≤ (jw (m28 76 47)) then (-1) else (m28 76 47))] (jhm b m28) (.inl (some (jcv (jI o.1)), jaH (jhm b o.2))) := by
            intro lv 
            exact jk_307_b224 hb h6 e lv 
          by_cases q36 : (jw ((x1 + 5) + v33)) ≤ (jw (m28 76 47))
          · refine ey_cle (cd_307 rfl) rfl rfl rfl q36 ?_
            refine ey_iconst (cd_307 rfl) ?_
            exact ey_rs (s0 := [jI (-1)]) (s1 := [jI (if (jw ((x1 + 5) + v33)) ≤ (jw (m28 76 47)) then (-1) else (m28 76 47))]) (by rw [show ((if (jw ((x1 + 5) + v33)) ≤ (jw (m28 76 47)) then (-1) else (m28 76 47)) : Int) = (-1) from (if_pos q36)]) (K35 (jup (jup lv 6 (jI v21)) 7 (jI v25)) )
          · refine ey_nle (cd_307 rfl) rfl rfl rfl q36 ?_
            refine ey_aload_n (cd_307 rfl) f0 ?_
            refine ey_getf_i (z := (m28 76 47)) (cd_307 rfl) mt_307 rfl rfl rfl (jhm_gi hb 47) ?_
            refine ey_goto (cd_307 rfl) rfl ?_
            exact ey_rs (s0 := [jI (m28 76 47)]) (s1 := [jI (if (jw ((x1 + 5) + v33)) ≤ (jw (m28 76 47)) then (-1) else (m28 76 47))]) (by rw [show ((if (jw ((x1 + 5) + v33)) ≤ (jw (m28 76 47)) then (-1) else (m28 76 47)) : Int) = (m28 76 47) from (if_neg q36)]) (K35 (jup (jup lv 6 (jI v21)) 7 (jI v25)) )
        · rw [if_neg q32] at e
          refine ey_nle (cd_307 rfl) rfl rfl (show jw 2000 = 2000 from by decide) q32 ?_
          refine ey_iload_n (cd_307 rfl) f1 ?_
          refine ey_iconst (cd_307 rfl) ?_
          refine ey_iadd (cd_307 rfl) ?_
          cases e
          exact ey_reti (cd_307 rfl) mt_307 rfl
    · rw [if_neg q24] at e
      refine ey_nle (cd_307 rfl) rfl rfl (show jw 7 = 7 from by decide) q24 ?_
      exact jk_307_b136 hb h6 e (jup lv 6 (jI v21)) f1
set_option maxRecDepth 100000 in
theorem ok_307 {L : Nat} {xs : Nat → Int32} {b : jH} (hb : 152 ≤ b.1) (h6 : b.1 ≤ 1000000) {p0 : Int} {p1 : Int} {m : jM} {o : (Int × jM)} (e : jd_307 p0 p1 m = some o) : mm_Runs (mm_xt L xs) 4 307 ([jR (some 76), jI p0, jI p1].map jcv) (jaH (jhm b m)) (.inl (some (jcv (jI o.1)), jaH (jhm b o.2))) := by
  refine ey_run0 _ mt_307 (jsl_s rfl) ?_
  unfold jd_307 at e
  refine ey_aload_n (cd_307 rfl) rfl ?_
  refine ey_iload_n (cd_307 rfl) rfl ?_
  obtain ⟨v1, e2, e⟩ := jbind e
  refine ey_cv (s0 := [jI p0, jR (some 76)]) (s1 := []) (st' := [jI v1]) (cd_307 rfl) mt_307 mt_302 rfl rfl rfl (jhm_is hb) rfl (jsml_s rfl) rfl (mm_Runs.up (d := 1) (by decide) (ok_302 hb h6 e2)) ?_
  refine ey_istore_n (cd_307 rfl) mt_307 rfl ?_
  refine ey_aload_n (cd_307 rfl) rfl ?_
  refine ey_iload_n (cd_307 rfl) rfl ?_
  refine ey_iload_n (cd_307 rfl) (jup_pi (lv := (jlf (jla 0 [jR (some 76), jI p0, jI p1]))) (j := 2) (v := jI v1) (z := p1) rfl) ?_
  obtain ⟨v3, e4, e⟩ := jbind e
  refine ey_cv (s0 := [jI p1, jI v1, jR (some 76)]) (s1 := []) (st' := [jI v3]) (cd_307 rfl) mt_307 mt_306 rfl rfl rfl (jhm_is hb) rfl (jsml_s rfl) rfl (ok_306 hb h6 e4) ?_
  by_cases q5 : (jw v3) = 0
  · rw [if_pos q5] at e
    refine ey_yne (cd_307 rfl) rfl rfl (fun w => w q5) ?_
    refine ey_iload_n (cd_307 rfl) rfl ?_
    cases e
    exact ey_reti (cd_307 rfl) mt_307 rfl
  · rw [if_neg q5] at e
    refine ey_zne (cd_307 rfl) rfl rfl q5 ?_
    refine ey_aload_n (cd_307 rfl) rfl ?_
    refine ey_getf_r (cd_307 rfl) mt_307 rfl rfl rfl (jhm_gr (q := 102) hb rfl) ?_
    refine ey_aload_n (cd_307 rfl) rfl ?_
    refine ey_getf_i (z := (m 76 35)) (cd_307 rfl) mt_307 rfl rfl rfl (jhm_gi hb 35) ?_
    refine ey_iload_n (cd_307 rfl) rfl ?_
    obtain ⟨m6, e7, e⟩ := jbind e
    refine ey_iast (cd_307 rfl) (jhm_ta hb (by decide) rfl e7) ?_
    refine ey_aload_n (cd_307 rfl) rfl ?_
    refine ey_iload_n (cd_307 rfl) rfl ?_
    refine ey_iconst (cd_307 rfl) ?_
    refine ey_iadd (cd_307 rfl) ?_
    obtain ⟨v8, e9, e⟩ := jbind e
    refine ey_cv (s0 := [jI (p0 + 1), jR (some 76)]) (s1 := []) (st' := [jI v8]) (cd_307 rfl) mt_307 mt_302 rfl rfl rfl (jhm_is hb) rfl (jsml_s rfl) rfl (mm_Runs.up (d := 1) (by decide) (ok_302 hb h6 e9)) ?_
    refine ey_istore (cd_307 rfl) mt_307 rfl ?_
    refine ey_aload_n (cd_307 rfl) rfl ?_
    refine ey_iload_n (cd_307 rfl) (jup_pi (lv := (jup (jlf (jla 0 [jR (some 76), jI p0, jI p1])) 3 (jI v1))) (j := 3) (v := jI v8) (z := v1) rfl) ?_
    refine ey_iload (cd_307 rfl) rfl ?_
    refine ey_iload_n (cd_307 rfl) (jup_o rfl (jup_pi (lv := (jlf (jla 0 [jR (some 76), jI p0, jI p1]))) (j := 2) (v := jI v1) (z := p1) rfl)) ?_
    obtain ⟨v10, e11, e⟩ := jbind e
    refine ey_cv (s0 := [jI p1, jI v8, jI v1, jR (some 76)]) (s1 := []) (st' := [jI v10]) (cd_307 rfl) mt_307 mt_305 rfl rfl rfl (jhm_is hb) rfl (jsml_s rfl) rfl (mm_Runs.up (d := 2) (by decide) (ok_305 hb h6 e11)) ?_
    by_cases q12 : (jw v10) = 0
    · rw [if_pos q12] at e
      refine ey_yne (cd_307 rfl) rfl rfl (fun w => w q12) ?_
      refine ey_iload_n (cd_307 rfl) rfl ?_
      refine ey_iconst (cd_307 rfl) ?_
      refine ey_iadd (cd_307 rfl) ?_
      cases e
      exact ey_reti (cd_307 rfl) mt_307 rfl
    · rw [if_neg q12] at e
      refine ey_zne (cd_307 rfl) rfl rfl q12 ?_
      refine ey_aload_n (cd_307 rfl) rfl ?_
      refine ey_getf_r (cd_307 rfl) mt_307 rfl rfl rfl (jhm_gr (q := 103) hb rfl) ?_
      refine ey_aload_n (cd_307 rfl) rfl ?_
      refine ey_getf_i (z := (m6 76 35)) (cd_307 rfl) mt_307 rfl rfl rfl (jhm_gi hb 35) ?_
      refine ey_iload (cd_307 rfl) rfl ?_
      obtain ⟨m13, e14, e⟩ := jbind e
      refine ey_iast (cd_307 rfl) (jhm_ta hb (by decide) rfl e14) ?_
      refine ey_aload_n (cd_307 rfl) rfl ?_
      refine ey_iload_n (cd_307 rfl) rfl ?_
      refine ey_iconst (cd_307 rfl) ?_
      refine ey_iadd (cd_307 rfl) ?_
      obtain ⟨v15, e16, e⟩ := jbind e
      refine ey_cv (s0 := [jI (p0 + 2), jR (some 76)]) (s1 := []) (st' := [jI v15]) (cd_307 rfl) mt_307 mt_302 rfl rfl rfl (jhm_is hb) rfl (jsml_s rfl) rfl (mm_Runs.up (d := 1) (by decide) (ok_302 hb h6 e16)) ?_
      refine ey_istore (cd_307 rfl) mt_307 rfl ?_
      refine ey_aload_n (cd_307 rfl) rfl ?_
      refine ey_getf_i (z := (m13 76 32)) (cd_307 rfl) mt_307 rfl rfl rfl (jhm_gi hb 32) ?_
      by_cases q17 : (jw (m13 76 32)) = 0
      · rw [if_pos q17] at e
        refine ey_yne (cd_307 rfl) rfl rfl (fun w => w q17) ?_
        refine ey_iload (cd_307 rfl) rfl ?_
        refine ey_i2l (cd_307 rfl) ?_
        refine ey_lconst1 (cd_307 rfl) ?_
        refine ey_ldc2 (z := 31) (cd_307 rfl) mt_307 rfl (by decide) ?_
        refine ey_cs (s0 := [jJ 31, jJ 1, jJ (jw v15)]) (s1 := []) (st' := [jI (jd_204 (jw v15) 1 31)]) (cd_307 rfl) mt_307 mt_204 rfl (by decide) rfl rfl (jsml_s rfl) rfl (mm_Runs.up (d := 1) (by decide) (ok_204 )) ?_
        by_cases q18 : (jw (jd_204 (jw v15) 1 31)) = 0
        · rw [if_pos q18] at e
          refine ey_yne (cd_307 rfl) rfl rfl (fun w => w q18) ?_
          refine ey_goto (cd_307 rfl) rfl ?_
          exact jk_307_b99 hb h6 e (jup (jup (jup (jlf (jla 0 [jR (some 76), jI p0, jI p1])) 3 (jI v1)) 4 (jI v8)) 5 (jI v15)) rfl
        · rw [if_neg q18] at e
          refine ey_zne (cd_307 rfl) rfl rfl q18 ?_
          exact jk_307_b103 hb h6 e (jup (jup (jup (jlf (jla 0 [jR (some 76), jI p0, jI p1])) 3 (jI v1)) 4 (jI v8)) 5 (jI v15)) rfl rfl rfl
      · rw [if_neg q17] at e
        refine ey_zne (cd_307 rfl) rfl rfl q17 ?_
        refine ey_iload (cd_307 rfl) rfl ?_
        by_cases q37 : (jw v15) = 0
        · rw [if_pos q37] at e
          refine ey_zeq (cd_307 rfl) rfl rfl q37 ?_
          exact jk_307_b103 hb h6 e (jup (jup (jup (jlf (jla 0 [jR (some 76), jI p0, jI p1])) 3 (jI v1)) 4 (jI v8)) 5 (jI v15)) rfl rfl rfl
        · rw [if_neg q37] at e
          refine ey_yeq (cd_307 rfl) rfl rfl q37 ?_
          exact jk_307_b99 hb h6 e (jup (jup (jup (jlf (jla 0 [jR (some 76), jI p0, jI p1])) 3 (jI v1)) 4 (jI v8)) 5 (jI v15)) rfl
theorem cd_301 {pc : Nat} {i : Instr × Nat} (h : mm_lk mm_c301 pc = some i) : mm_cd 301 pc = some i := h
theorem mt_301 : mm_MT 301 = (12, 5, some .int, 0, 0, []) := rfl
set_option maxRecDepth 100000 in
theorem jk_301_s69 {L : Nat} {xs : Nat → Int32} {b : jH} (hb : 152 ≤ b.1) (h6 : b.1 ≤ 1000000) {x2 : Int} {x3 : Int} {m : jM} {o : ((Int × jM) ⊕ ((Int × jM) ⊕ (Int × jM)))} {r : mm_R} (e : jd_301_s69 x2 x3 m = some o) (K : jsm (fun s => (∀ lv : jL, lv 0 = some (jR (some 76)) → lv 2 = some (jI x2) → lv 3 = some (jI s.1) → ey (mm_xt L xs) 4 301 69 lv [] (jhm b s.2) r)) (fun x => (jsm (fun y => (∀ lv : jL, lv 4 = some (jI y.1) → ey (mm_xt L xs) 4 301 91 lv [] (jhm b y.2) r)) (fun z => (∀ lv : jL, lv 0 = some (jR (some 76)) → lv 3 = some (jI z.1) → ey (mm_xt L xs) 4 301 131 lv [] (jhm b z.2) r)) x)) o) : ∀ lv : jL, lv 0 = some (jR (some 76)) → lv 2 = some (jI x2) → lv 3 = some (jI x3) → ey (mm_xt L xs) 4 301 69 lv [] (jhm b m) r := by
  intro lv f0 f2 f3
  unfold jd_301_s69 at e
  refine ey_aload_n (cd_301 rfl) f0 ?_
  refine ey_getf_i (z := (m 76 35)) (cd_301 rfl) mt_301 rfl rfl rfl (jhm_gi hb 35) ?_
  refine ey_iload_n (cd_301 rfl) f2 ?_
  by_cases q22 : (jw x2) ≤ (jw (m 76 35))
  · rw [if_pos q22] at e
    refine ey_cge (cd_301 rfl) rfl rfl rfl q22 ?_
    cases e
    exact K lv f0 f3
  · rw [if_neg q22] at e
    refine ey_nge (cd_301 rfl) rfl rfl rfl q22 ?_
    refine ey_aload_n (cd_301 rfl) f0 ?_
    refine ey_iload_n (cd_301 rfl) f3 ?_
    refine ey_iload_n (cd_301 rfl) f2 ?_
    obtain ⟨q23, e24, e⟩ := jbind e
    refine ey_cv (s0 := [jI x2, jI x3, jR (some 76)]) (s1 := []) (st' := [jI q23.1]) (cd_301 rfl) mt_301 mt_307 rfl rfl rfl (jhm_is hb) rfl (jsml_s rfl) rfl (ok_307 hb h6 e24) ?_
    refine ey_istore (cd_301 rfl) mt_301 rfl ?_
    refine ey_iload (cd_301 rfl) rfl ?_
    refine ey_iconst (cd_301 rfl) ?_
    by_cases q25 : (jw q23.1) = (-1)
    · rw [if_pos q25] at e
      refine ey_ceq (cd_301 rfl) rfl rfl (show jw (-1) = (-1) from by decide) q25 ?_
      refine ey_aload_n (cd_301 rfl) f0 ?_
      refine ey_getf_r (cd_301 rfl) mt_301 rfl rfl rfl (jhm_gr (q := 106) hb rfl) ?_
      refine ey_aload_n (cd_301 rfl) f0 ?_
      refine ey_getf_i (z := (q23.2 76 35)) (cd_301 rfl) mt_301 rfl rfl rfl (jhm_gi hb 35) ?_
      refine ey_iload_n (cd_301 rfl) (jup_pi (lv := lv) (j := 3) (v := jI q23.1) (z := x3) f3) ?_
      obtain ⟨m26, e27, e⟩ := jbind e
      refine ey_iast (cd_301 rfl) (jhm_ta hb (by decide) rfl e27) ?_
      refine ey_iload_n (cd_301 rfl) (jup_pi (lv := lv) (j := 3) (v := jI q23.1) (z := x3) f3) ?_
      refine ey_iconst (cd_301 rfl) ?_
      refine ey_aload_n (cd_301 rfl) f0 ?_
      refine ey_getf_r (cd_301 rfl) mt_301 rfl rfl rfl (jhm_gr (q := 105) hb rfl) ?_
      refine ey_aload_n (cd_301 rfl) f0 ?_
      refine ey_getf_i (z := (m26 76 35)) (cd_301 rfl) mt_301 rfl rfl rfl (jhm_gi hb 35) ?_
      obtain ⟨v28, e29, e⟩ := jbind e
      refine ey_iald (cd_301 rfl) (jhm_ai hb h6 (by decide) rfl e29) ?_
      refine ey_iadd (cd_301 rfl) ?_
      refine ey_iadd (cd_301 rfl) ?_
      refine ey_istore_n (cd_301 rfl) mt_301 rfl ?_
      refine ey_aload_n (cd_301 rfl) f0 ?_
      refine ey_dup (cd_301 rfl) rfl ?_
      refine ey_getf_i (z := (m26 76 35)) (cd_301 rfl) mt_301 rfl rfl rfl (jhm_gi hb 35) ?_
      refine ey_iconst (cd_301 rfl) ?_
      refine ey_iadd (cd_301 rfl) ?_
      obtain ⟨m30, e31, e⟩ := jbind e
      refine ey_putf_i (cd_301 rfl) mt_301 rfl rfl rfl (jhm_pi' (k := 35) hb e31) ?_
      refine ey_goto (cd_301 rfl) rfl ?_
      cases e
      exact K (jup (jup lv 4 (jI q23.1)) 3 (jI (x3 + (5 + v28)))) f0 (jup_pi (lv := (jup lv 4 (jI q23.1))) (j := 2) (v := jI (x3 + (5 + v28))) (z := x2) f2) rfl
    · rw [if_neg q25] at e
      refine ey_neq (cd_301 rfl) rfl rfl (show jw (-1) = (-1) from by decide) q25 ?_
      cases e
      exact K (jup lv 4 (jI q23.1)) rfl
theorem jk_301_l69 {L : Nat} {xs : Nat → Int32} {b : jH} (hb : 152 ≤ b.1) (h6 : b.1 ≤ 1000000) {x2 : Int} {x3 : Int} {m : jM} {x : ((Int × jM) ⊕ (Int × jM))} {r : mm_R} (e : jd_301_l69 x2 x3 m = some x) (K : (jsm (fun y => (∀ lv : jL, lv 4 = some (jI y.1) → ey (mm_xt L xs) 4 301 91 lv [] (jhm b y.2) r)) (fun z => (∀ lv : jL, lv 0 = some (jR (some 76)) → lv 3 = some (jI z.1) → ey (mm_xt L xs) 4 301 131 lv [] (jhm b z.2) r)) x)) : ∀ lv : jL, lv 0 = some (jR (some 76)) → lv 2 = some (jI x2) → lv 3 = some (jI x3) → ey (mm_xt L xs) 4 301 69 lv [] (jhm b m) r := by
  unfold jd_301_l69 at e
  exact jlp_ok2 (P := fun s => ∀ lv : jL, lv 0 = some (jR (some 76)) → lv 2 = some (jI x2) → lv 3 = some (jI s.1) → ey (mm_xt L xs) 4 301 69 lv [] (jhm b s.2) r) (Q := fun x => (jsm (fun y => (∀ lv : jL, lv 4 = some (jI y.1) → ey (mm_xt L xs) 4 301 91 lv [] (jhm b y.2) r)) (fun z => (∀ lv : jL, lv 0 = some (jR (some 76)) → lv 3 = some (jI z.1) → ey (mm_xt L xs) 4 301 131 lv [] (jhm b z.2) r)) x)) (fun s q hq hk => jk_301_s69 hb h6 hq hk) jfu _ x e K
set_option maxRecDepth 100000 in
theorem ok_301 {L : Nat} {xs : Nat → Int32} {b : jH} (hb : 152 ≤ b.1) (h6 : b.1 ≤ 1000000)  {m : jM} {o : (Int × jM)} (e : jd_301  m = some o) : mm_Runs (mm_xt L xs) 5 301 ([jR (some 76)].map jcv) (jaH (jhm b m)) (.inl (some (jcv (jI o.1)), jaH (jhm b o.2))) := by
  refine ey_run0 _ mt_301 (jsl_s rfl) ?_
  unfold jd_301 at e
  refine ey_aload_n (cd_301 rfl) rfl ?_
  obtain ⟨v1, e2, e⟩ := jbind e
  refine ey_cv (s0 := [jR (some 76)]) (s1 := []) (st' := [jI v1]) (cd_301 rfl) mt_301 mt_303 rfl rfl rfl (jhm_is hb) rfl (jsml_s rfl) rfl (mm_Runs.up (d := 2) (by decide) (ok_303 hb h6 e2)) ?_
  refine ey_istore_n (cd_301 rfl) mt_301 rfl ?_
  refine ey_iload_n (cd_301 rfl) rfl ?_
  refine ey_iconst (cd_301 rfl) ?_
  by_cases q3 : (jw v1) = (-1)
  · rw [if_pos q3] at e
    refine ey_ceq (cd_301 rfl) rfl rfl (show jw (-1) = (-1) from by decide) q3 ?_
    refine ey_aload_n (cd_301 rfl) (jup_pr (lv := (jlf (jla 0 [jR (some 76)]))) (j := 0) (v := jI v1) (z := (some 76)) rfl) ?_
    refine ey_aload_n (cd_301 rfl) (jup_pr (lv := (jlf (jla 0 [jR (some 76)]))) (j := 0) (v := jI v1) (z := (some 76)) rfl) ?_
    refine ey_getf_r (cd_301 rfl) mt_301 rfl rfl rfl (jhm_gr (q := 112) hb rfl) ?_
    refine ey_iconst (cd_301 rfl) ?_
    obtain ⟨v4, e5, e⟩ := jbind e
    refine ey_bald (cd_301 rfl) (jhm_ab hb (by decide) rfl e5) ?_
    obtain ⟨m6, e7, e⟩ := jbind e
    refine ey_putf_i (cd_301 rfl) mt_301 rfl rfl rfl (jhm_pi' (k := 32) hb e7) ?_
    refine ey_aload_n (cd_301 rfl) (jup_pr (lv := (jlf (jla 0 [jR (some 76)]))) (j := 0) (v := jI v1) (z := (some 76)) rfl) ?_
    refine ey_bipush (cd_301 rfl) (by decide) ?_
    refine ey_aload_n (cd_301 rfl) (jup_pr (lv := (jlf (jla 0 [jR (some 76)]))) (j := 0) (v := jI v1) (z := (some 76)) rfl) ?_
    refine ey_getf_r (cd_301 rfl) mt_301 rfl rfl rfl (jhm_gr (q := 112) hb rfl) ?_
    refine ey_iconst (cd_301 rfl) ?_
    obtain ⟨v8, e9, e⟩ := jbind e
    refine ey_bald (cd_301 rfl) (jhm_ab hb (by decide) rfl e9) ?_
    refine ey_imul (cd_301 rfl) ?_
    obtain ⟨m10, e11, e⟩ := jbind e
    refine ey_putf_i (cd_301 rfl) mt_301 rfl rfl rfl (jhm_pi' (k := 33) hb e11) ?_
    refine ey_aload_n (cd_301 rfl) (jup_pr (lv := (jlf (jla 0 [jR (some 76)]))) (j := 0) (v := jI v1) (z := (some 76)) rfl) ?_
    refine ey_bipush (cd_301 rfl) (by decide) ?_
    refine ey_aload_n (cd_301 rfl) (jup_pr (lv := (jlf (jla 0 [jR (some 76)]))) (j := 0) (v := jI v1) (z := (some 76)) rfl) ?_
    refine ey_getf_r (cd_301 rfl) mt_301 rfl rfl rfl (jhm_gr (q := 112) hb rfl) ?_
    refine ey_iconst (cd_301 rfl) ?_
    obtain ⟨v12, e13, e⟩ := jbind e
    refine ey_bald (cd_301 rfl) (jhm_ab hb (by decide) rfl e13) ?_
    refine ey_imul (cd_301 rfl) ?_
    obtain ⟨m14, e15, e⟩ := jbind e
    refine ey_putf_i (cd_301 rfl) mt_301 rfl rfl rfl (jhm_pi' (k := 34) hb e15) ?_
    refine ey_aload_n (cd_301 rfl) (jup_pr (lv := (jlf (jla 0 [jR (some 76)]))) (j := 0) (v := jI v1) (z := (some 76)) rfl) ?_
    refine ey_getf_r (cd_301 rfl) mt_301 rfl rfl rfl (jhm_gr (q := 112) hb rfl) ?_
    refine ey_bipush (cd_301 rfl) (by decide) ?_
    obtain ⟨v16, e17, e⟩ := jbind e
    refine ey_bald (cd_301 rfl) (jhm_ab hb (by decide) rfl e17) ?_
    refine ey_istore_n (cd_301 rfl) mt_301 rfl ?_
    refine ey_aload_n (cd_301 rfl) (jup_o rfl (jup_pr (lv := (jlf (jla 0 [jR (some 76)]))) (j := 0) (v := jI v1) (z := (some 76)) rfl)) ?_
    refine ey_iconst (cd_301 rfl) ?_
    obtain ⟨m18, e19, e⟩ := jbind e
    refine ey_putf_i (cd_301 rfl) mt_301 rfl rfl rfl (jhm_pi' (k := 36) hb e19) ?_
    refine ey_bipush (cd_301 rfl) (by decide) ?_
    refine ey_istore_n (cd_301 rfl) mt_301 rfl ?_
    refine ey_aload_n (cd_301 rfl) (jup_o rfl (jup_o rfl (jup_pr (lv := (jlf (jla 0 [jR (some 76)]))) (j := 0) (v := jI v1) (z := (some 76)) rfl))) ?_
    refine ey_iconst (cd_301 rfl) ?_
    obtain ⟨m20, e21, e⟩ := jbind e
    refine ey_putf_i (cd_301 rfl) mt_301 rfl rfl rfl (jhm_pi' (k := 35) hb e21) ?_
    obtain ⟨x32, e33, e⟩ := jbind e
    refine jk_301_l69 hb h6 e33 ?_ (jup (jup (jup (jlf (jla 0 [jR (some 76)])) 1 (jI v1)) 2 (jI v16)) 3 (jI 7)) (jup_o rfl (jup_o rfl (jup_pr (lv := (jlf (jla 0 [jR (some 76)]))) (j := 0) (v := jI v1) (z := (some 76)) rfl))) (jup_pi (lv := (jup (jup (jlf (jla 0 [jR (some 76)])) 1 (jI v1)) 2 (jI v16))) (j := 2) (v := jI 7) (z := v16) rfl) rfl
    cases x32 with
    | inl y34 =>
      replace e : (some (y34.1, y34.2) : Option (Int × jM)) = some o := e
      intro lv g4
      refine ey_iload (cd_301 rfl) g4 ?_
      cases e
      exact ey_reti (cd_301 rfl) mt_301 rfl
    | inr y35 =>
      replace e : (some ((if (jw (y35.2 76 47)) ≤ (jw y35.1) then (-1) else y35.1), y35.2) : Option (Int × jM)) = some o := e
      intro lv g0 g3
      refine ey_iload_n (cd_301 rfl) g3 ?_
      refine ey_aload_n (cd_301 rfl) g0 ?_
      refine ey_getf_i (z := (y35.2 76 47)) (cd_301 rfl) mt_301 rfl rfl rfl (jhm_gi hb 47) ?_
      have K36 : ∀ lv : jL, ey (mm_xt L xs) 4 301 144 lv [jI (if (jw (y35.2 76 47)) ≤ (jw y35.1) then (-1) else y35.1)] (jhm b y35.2) (.inl (some (jcv (jI o.1)), jaH (jhm b o.2))) := by
        intro lv 
        cases e
        exact ey_reti (cd_301 rfl) mt_301 rfl
      by_cases q37 : (jw (y35.2 76 47)) ≤ (jw y35.1)
      · refine ey_cge (cd_301 rfl) rfl rfl rfl q37 ?_
        refine ey_iconst (cd_301 rfl) ?_
        exact ey_rs (s0 := [jI (-1)]) (s1 := [jI (if (jw (y35.2 76 47)) ≤ (jw y35.1) then (-1) else y35.1)]) (by rw [show ((if (jw (y35.2 76 47)) ≤ (jw y35.1) then (-1) else y35.1) : Int) = (-1) from (if_pos q37)]) (K36 lv )
      · refine ey_nge (cd_301 rfl) rfl rfl rfl q37 ?_
        refine ey_iload_n (cd_301 rfl) g3 ?_
        refine ey_goto (cd_301 rfl) rfl ?_
        exact ey_rs (s0 := [jI y35.1]) (s1 := [jI (if (jw (y35.2 76 47)) ≤ (jw y35.1) then (-1) else y35.1)]) (by rw [show ((if (jw (y35.2 76 47)) ≤ (jw y35.1) then (-1) else y35.1) : Int) = y35.1 from (if_neg q37)]) (K36 lv )
  · rw [if_neg q3] at e
    refine ey_neq (cd_301 rfl) rfl rfl (show jw (-1) = (-1) from by decide) q3 ?_
    refine ey_iload_n (cd_301 rfl) rfl ?_
    cases e
    exact ey_reti (cd_301 rfl) mt_301 rfl
theorem cd_308 {pc : Nat} {i : Instr × Nat} (h : mm_lk mm_c308 pc = some i) : mm_cd 308 pc = some i := h
theorem mt_308 : mm_MT 308 = (12, 5, some .int, 0, 0, []) := rfl
set_option maxRecDepth 100000 in
theorem jk_308_s69 {L : Nat} {xs : Nat → Int32} {b : jH} (hb : 152 ≤ b.1) (h6 : b.1 ≤ 1000000) {x1 : Int} {x2 : Int} {m : jM} {o : ((Int × jM) ⊕ jM)} {r : mm_R} (e : jd_308_s69 x1 x2 m = some o) (K : jsm (fun s => (∀ lv : jL, lv 0 = some (jR (some 76)) → lv 1 = some (jI x1) → lv 2 = some (jI s.1) → ey (mm_xt L xs) 9 308 69 lv [] (jhm b s.2) r)) (fun x => (∀ lv : jL, lv 0 = some (jR (some 76)) → lv 1 = some (jI x1) → ey (mm_xt L xs) 9 308 101 lv [] (jhm b x) r)) o) : ∀ lv : jL, lv 0 = some (jR (some 76)) → lv 1 = some (jI x1) → lv 2 = some (jI x2) → ey (mm_xt L xs) 9 308 69 lv [] (jhm b m) r := by
  intro lv f0 f1 f2
  unfold jd_308_s69 at e
  refine ey_iload_n (cd_308 rfl) f2 ?_
  refine ey_aload_n (cd_308 rfl) f0 ?_
  refine ey_getf_i (z := (m 76 47)) (cd_308 rfl) mt_308 rfl rfl rfl (jhm_gi hb 47) ?_
  by_cases q15 : (jw (m 76 47)) ≤ (jw x2)
  · rw [if_pos q15] at e
    refine ey_cge (cd_308 rfl) rfl rfl rfl q15 ?_
    cases e
    exact K lv f0 f1
  · rw [if_neg q15] at e
    refine ey_nge (cd_308 rfl) rfl rfl rfl q15 ?_
    refine ey_aload_n (cd_308 rfl) f0 ?_
    refine ey_getf_r (cd_308 rfl) mt_308 rfl rfl rfl (jhm_gr (q := 89) hb rfl) ?_
    refine ey_sipush (cd_308 rfl) (by decide) ?_
    refine ey_iload_n (cd_308 rfl) f1 ?_
    refine ey_imul (cd_308 rfl) ?_
    refine ey_iload_n (cd_308 rfl) f2 ?_
    refine ey_iadd (cd_308 rfl) ?_
    refine ey_aload_n (cd_308 rfl) f0 ?_
    refine ey_getf_r (cd_308 rfl) mt_308 rfl rfl rfl (jhm_gr (q := 112) hb rfl) ?_
    refine ey_iload_n (cd_308 rfl) f2 ?_
    obtain ⟨v16, e17, e⟩ := jbind e
    refine ey_bald (cd_308 rfl) (jhm_ab hb (by decide) rfl e17) ?_
    obtain ⟨m18, e19, e⟩ := jbind e
    refine ey_bast (cd_308 rfl) (jhm_ta hb (by decide) rfl e19) ?_
    refine ey_iinc (cd_308 rfl) mt_308 rfl f2 ?_
    refine ey_goto (cd_308 rfl) rfl ?_
    cases e
    exact K (jup lv 2 (jI (x2 + 1))) f0 (jup_pi (lv := lv) (j := 1) (v := jI (x2 + 1)) (z := x1) f1) rfl
theorem jk_308_l69 {L : Nat} {xs : Nat → Int32} {b : jH} (hb : 152 ≤ b.1) (h6 : b.1 ≤ 1000000) {x1 : Int} {x2 : Int} {m : jM} {x : jM} {r : mm_R} (e : jd_308_l69 x1 x2 m = some x) (K : (∀ lv : jL, lv 0 = some (jR (some 76)) → lv 1 = some (jI x1) → ey (mm_xt L xs) 9 308 101 lv [] (jhm b x) r)) : ∀ lv : jL, lv 0 = some (jR (some 76)) → lv 1 = some (jI x1) → lv 2 = some (jI x2) → ey (mm_xt L xs) 9 308 69 lv [] (jhm b m) r := by
  unfold jd_308_l69 at e
  exact jlp_ok2 (P := fun s => ∀ lv : jL, lv 0 = some (jR (some 76)) → lv 1 = some (jI x1) → lv 2 = some (jI s.1) → ey (mm_xt L xs) 9 308 69 lv [] (jhm b s.2) r) (Q := fun x => (∀ lv : jL, lv 0 = some (jR (some 76)) → lv 1 = some (jI x1) → ey (mm_xt L xs) 9 308 101 lv [] (jhm b x) r)) (fun s q hq hk => jk_308_s69 hb h6 hq hk) jfu _ x e K
set_option maxRecDepth 100000 in
theorem jk_308_b284 {L : Nat} {xs : Nat → Int32} {b : jH} (hb : 152 ≤ b.1) (h6 : b.1 ≤ 1000000) {x1 : Int} {x2 : Int} {x3 : Int} {x4 : Int} {y0 : Int} {y1 : Int} {m : jM} {o : ((Int × jM) ⊕ jM)} {r : mm_R} (e : jd_308_b284 x1 x2 x3 x4 y0 y1 m = some o) (K : jsm (fun s => (∀ lv : jL, lv 0 = some (jR (some 76)) → lv 1 = some (jI x1) → lv 2 = some (jI x2) → lv 3 = some (jI x3) → lv 4 = some (jI s.1) → ey (mm_xt L xs) 9 308 240 lv [] (jhm b s.2) r)) (fun x => (∀ lv : jL, lv 0 = some (jR (some 76)) → lv 1 = some (jI x1) → lv 2 = some (jI x2) → lv 3 = some (jI x3) → ey (mm_xt L xs) 9 308 291 lv [] (jhm b x) r)) o) : ∀ lv : jL, lv 0 = some (jR (some 76)) → lv 1 = some (jI x1) → lv 2 = some (jI x2) → lv 3 = some (jI x3) → lv 4 = some (jI x4) → ey (mm_xt L xs) 9 308 284 lv [jI y0, jI y1, jR (some 95)] (jhm b m) r := by
  intro lv f0 f1 f2 f3 f4
  unfold jd_308_b284 at e
  obtain ⟨m63, e64, e⟩ := jbind e
  refine ey_zast (cd_308 rfl) (jhm_ta hb (by decide) rfl e64) ?_
  refine ey_iinc (cd_308 rfl) mt_308 rfl f4 ?_
  refine ey_goto (cd_308 rfl) rfl ?_
  cases e
  exact K (jup lv 4 (jI (x4 + 1))) f0 f1 f2 (jup_pi (lv := lv) (j := 3) (v := jI (x4 + 1)) (z := x3) f3) rfl
set_option maxRecDepth 100000 in
theorem jk_308_s240 {L : Nat} {xs : Nat → Int32} {b : jH} (hb : 152 ≤ b.1) (h6 : b.1 ≤ 1000000) {x1 : Int} {x2 : Int} {x3 : Int} {x4 : Int} {m : jM} {o : ((Int × jM) ⊕ jM)} {r : mm_R} (e : jd_308_s240 x1 x2 x3 x4 m = some o) (K : jsm (fun s => (∀ lv : jL, lv 0 = some (jR (some 76)) → lv 1 = some (jI x1) → lv 2 = some (jI x2) → lv 3 = some (jI x3) → lv 4 = some (jI s.1) → ey (mm_xt L xs) 9 308 240 lv [] (jhm b s.2) r)) (fun x => (∀ lv : jL, lv 0 = some (jR (some 76)) → lv 1 = some (jI x1) → lv 2 = some (jI x2) → lv 3 = some (jI x3) → ey (mm_xt L xs) 9 308 291 lv [] (jhm b x) r)) o) : ∀ lv : jL, lv 0 = some (jR (some 76)) → lv 1 = some (jI x1) → lv 2 = some (jI x2) → lv 3 = some (jI x3) → lv 4 = some (jI x4) → ey (mm_xt L xs) 9 308 240 lv [] (jhm b m) r := by
  intro lv f0 f1 f2 f3 f4
  unfold jd_308_s240 at e
  refine ey_iload (cd_308 rfl) f4 ?_
  refine ey_aload_n (cd_308 rfl) f0 ?_
  refine ey_getf_i (z := (m 76 35)) (cd_308 rfl) mt_308 rfl rfl rfl (jhm_gi hb 35) ?_
  by_cases q59 : (jw (m 76 35)) ≤ (jw x4)
  · rw [if_pos q59] at e
    refine ey_cge (cd_308 rfl) rfl rfl rfl q59 ?_
    cases e
    exact K lv f0 f1 f2 f3
  · rw [if_neg q59] at e
    refine ey_nge (cd_308 rfl) rfl rfl rfl q59 ?_
    refine ey_aload_n (cd_308 rfl) f0 ?_
    refine ey_getf_r (cd_308 rfl) mt_308 rfl rfl rfl (jhm_gr (q := 95) hb rfl) ?_
    refine ey_iload_n (cd_308 rfl) f3 ?_
    refine ey_aload_n (cd_308 rfl) f0 ?_
    refine ey_getf_r (cd_308 rfl) mt_308 rfl rfl rfl (jhm_gr (q := 95) hb rfl) ?_
    refine ey_iload_n (cd_308 rfl) f3 ?_
    obtain ⟨v60, e61, e⟩ := jbind e
    refine ey_zald (cd_308 rfl) (jhm_az hb (by decide) rfl e61) ?_
    by_cases q62 : (jw v60) = 0
    · rw [if_pos q62] at e
      refine ey_zeq (cd_308 rfl) rfl rfl q62 ?_
      refine ey_iconst (cd_308 rfl) ?_
      exact jk_308_b284 hb h6 e K lv f0 f1 f2 f3 f4
    · rw [if_neg q62] at e
      refine ey_yeq (cd_308 rfl) rfl rfl q62 ?_
      refine ey_aload_n (cd_308 rfl) f0 ?_
      refine ey_getf_r (cd_308 rfl) mt_308 rfl rfl rfl (jhm_gr (q := 103) hb rfl) ?_
      refine ey_iload (cd_308 rfl) f4 ?_
      obtain ⟨v65, e66, e⟩ := jbind e
      refine ey_iald (cd_308 rfl) (jhm_ai hb h6 (by decide) rfl e66) ?_
      refine ey_aload_n (cd_308 rfl) f0 ?_
      refine ey_getf_r (cd_308 rfl) mt_308 rfl rfl rfl (jhm_gr (q := 103) hb rfl) ?_
      refine ey_iload_n (cd_308 rfl) f2 ?_
      obtain ⟨v67, e68, e⟩ := jbind e
      refine ey_iald (cd_308 rfl) (jhm_ai hb h6 (by decide) rfl e68) ?_
      have K69 : ∀ lv : jL, lv 0 = some (jR (some 76)) → lv 1 = some (jI x1) → lv 2 = some (jI x2) → lv 3 = some (jI x3) → lv 4 = some (jI x4) → ey (mm_xt L xs) 9 308 284 lv [jI (if (jw v65) ≤ (jw v67) then 0 else 1), jI x3, jR (some 95)] (jhm b m) r := by
        intro lv g0 g1 g2 g3 g4
        exact jk_308_b284 hb h6 e K lv g0 g1 g2 g3 g4
      by_cases q70 : (jw v65) ≤ (jw v67)
      · refine ey_cle (cd_308 rfl) rfl rfl rfl q70 ?_
        refine ey_iconst (cd_308 rfl) ?_
        exact ey_rs (s0 := [jI 0, jI x3, jR (some 95)]) (s1 := [jI (if (jw v65) ≤ (jw v67) then 0 else 1), jI x3, jR (some 95)]) (by rw [show ((if (jw v65) ≤ (jw v67) then 0 else 1) : Int) = 0 from (if_pos q70)]) (K69 lv f0 f1 f2 f3 f4)
      · refine ey_nle (cd_308 rfl) rfl rfl rfl q70 ?_
        refine ey_iconst (cd_308 rfl) ?_
        refine ey_goto (cd_308 rfl) rfl ?_
        exact ey_rs (s0 := [jI 1, jI x3, jR (some 95)]) (s1 := [jI (if (jw v65) ≤ (jw v67) then 0 else 1), jI x3, jR (some 95)]) (by rw [show ((if (jw v65) ≤ (jw v67) then 0 else 1) : Int) = 1 from (if_neg q70)]) (K69 lv f0 f1 f2 f3 f4)
theorem jk_308_l240 {L : Nat} {xs : Nat → Int32} {b : jH} (hb : 152 ≤ b.1) (h6 : b.1 ≤ 1000000) {x1 : Int} {x2 : Int} {x3 : Int} {x4 : Int} {m : jM} {x : jM} {r : mm_R} (e : jd_308_l240 x1 x2 x3 x4 m = some x) (K : (∀ lv : jL, lv 0 = some (jR (some 76)) → lv 1 = some (jI x1) → lv 2 = some (jI x2) → lv 3 = some (jI x3) → ey (mm_xt L xs) 9 308 291 lv [] (jhm b x) r)) : ∀ lv : jL, lv 0 = some (jR (some 76)) → lv 1 = some (jI x1) → lv 2 = some (jI x2) → lv 3 = some (jI x3) → lv 4 = some (jI x4) → ey (mm_xt L xs) 9 308 240 lv [] (jhm b m) r := by
  unfold jd_308_l240 at e
  exact jlp_ok2 (P := fun s => ∀ lv : jL, lv 0 = some (jR (some 76)) → lv 1 = some (jI x1) → lv 2 = some (jI x2) → lv 3 = some (jI x3) → lv 4 = some (jI s.1) → ey (mm_xt L xs) 9 308 240 lv [] (jhm b s.2) r) (Q := fun x => (∀ lv : jL, lv 0 = some (jR (some 76)) → lv 1 = some (jI x1) → lv 2 = some (jI x2) → lv 3 = some (jI x3) → ey (mm_xt L xs) 9 308 291 lv [] (jhm b x) r)) (fun s q hq hk => jk_308_s240 hb h6 hq hk) jfu _ x e K
set_option maxRecDepth 100000 in
theorem jk_308_s294 {L : Nat} {xs : Nat → Int32} {b : jH} (hb : 152 ≤ b.1) (h6 : b.1 ≤ 1000000) {x1 : Int} {x2 : Int} {x3 : Int} {x4 : Int} {m : jM} {o : ((Int × jM) ⊕ jM)} {r : mm_R} (e : jd_308_s294 x1 x2 x3 x4 m = some o) (K : jsm (fun s => (∀ lv : jL, lv 0 = some (jR (some 76)) → lv 1 = some (jI x1) → lv 2 = some (jI x2) → lv 3 = some (jI x3) → lv 4 = some (jI s.1) → ey (mm_xt L xs) 9 308 294 lv [] (jhm b s.2) r)) (fun x => (∀ lv : jL, lv 0 = some (jR (some 76)) → lv 1 = some (jI x1) → lv 2 = some (jI x2) → lv 3 = some (jI x3) → ey (mm_xt L xs) 9 308 360 lv [] (jhm b x) r)) o) : ∀ lv : jL, lv 0 = some (jR (some 76)) → lv 1 = some (jI x1) → lv 2 = some (jI x2) → lv 3 = some (jI x3) → lv 4 = some (jI x4) → ey (mm_xt L xs) 9 308 294 lv [] (jhm b m) r := by
  intro lv f0 f1 f2 f3 f4
  unfold jd_308_s294 at e
  refine ey_iload (cd_308 rfl) f4 ?_
  refine ey_sipush (cd_308 rfl) (by decide) ?_
  by_cases q73 : 864 ≤ (jw x4)
  · rw [if_pos q73] at e
    refine ey_cge (cd_308 rfl) rfl rfl (show jw 864 = 864 from by decide) q73 ?_
    cases e
    exact K lv f0 f1 f2 f3
  · rw [if_neg q73] at e
    refine ey_nge (cd_308 rfl) rfl rfl (show jw 864 = 864 from by decide) q73 ?_
    refine ey_aload_n (cd_308 rfl) f0 ?_
    refine ey_getf_r (cd_308 rfl) mt_308 rfl rfl rfl (jhm_gr (q := 99) hb rfl) ?_
    refine ey_sipush (cd_308 rfl) (by decide) ?_
    refine ey_iload_n (cd_308 rfl) f3 ?_
    refine ey_imul (cd_308 rfl) ?_
    refine ey_iload (cd_308 rfl) f4 ?_
    refine ey_iadd (cd_308 rfl) ?_
    refine ey_aload_n (cd_308 rfl) f0 ?_
    refine ey_getf_r (cd_308 rfl) mt_308 rfl rfl rfl (jhm_gr (q := 109) hb rfl) ?_
    refine ey_sipush (cd_308 rfl) (by decide) ?_
    refine ey_iload_n (cd_308 rfl) f2 ?_
    refine ey_imul (cd_308 rfl) ?_
    refine ey_iload (cd_308 rfl) f4 ?_
    refine ey_iadd (cd_308 rfl) ?_
    obtain ⟨v74, e75, e⟩ := jbind e
    refine ey_iald (cd_308 rfl) (jhm_ai hb h6 (by decide) rfl e75) ?_
    obtain ⟨m76, e77, e⟩ := jbind e
    refine ey_iast (cd_308 rfl) (jhm_ta hb (by decide) rfl e77) ?_
    refine ey_aload_n (cd_308 rfl) f0 ?_
    refine ey_getf_r (cd_308 rfl) mt_308 rfl rfl rfl (jhm_gr (q := 100) hb rfl) ?_
    refine ey_sipush (cd_308 rfl) (by decide) ?_
    refine ey_iload_n (cd_308 rfl) f3 ?_
    refine ey_imul (cd_308 rfl) ?_
    refine ey_iload (cd_308 rfl) f4 ?_
    refine ey_iadd (cd_308 rfl) ?_
    refine ey_aload_n (cd_308 rfl) f0 ?_
    refine ey_getf_r (cd_308 rfl) mt_308 rfl rfl rfl (jhm_gr (q := 110) hb rfl) ?_
    refine ey_sipush (cd_308 rfl) (by decide) ?_
    refine ey_iload_n (cd_308 rfl) f2 ?_
    refine ey_imul (cd_308 rfl) ?_
    refine ey_iload (cd_308 rfl) f4 ?_
    refine ey_iadd (cd_308 rfl) ?_
    obtain ⟨v78, e79, e⟩ := jbind e
    refine ey_zald (cd_308 rfl) (jhm_az hb (by decide) rfl e79) ?_
    obtain ⟨m80, e81, e⟩ := jbind e
    refine ey_zast (cd_308 rfl) (jhm_ta hb (by decide) rfl e81) ?_
    refine ey_iinc (cd_308 rfl) mt_308 rfl f4 ?_
    refine ey_goto (cd_308 rfl) rfl ?_
    cases e
    exact K (jup lv 4 (jI (x4 + 1))) f0 f1 f2 (jup_pi (lv := lv) (j := 3) (v := jI (x4 + 1)) (z := x3) f3) rfl
theorem jk_308_l294 {L : Nat} {xs : Nat → Int32} {b : jH} (hb : 152 ≤ b.1) (h6 : b.1 ≤ 1000000) {x1 : Int} {x2 : Int} {x3 : Int} {x4 : Int} {m : jM} {x : jM} {r : mm_R} (e : jd_308_l294 x1 x2 x3 x4 m = some x) (K : (∀ lv : jL, lv 0 = some (jR (some 76)) → lv 1 = some (jI x1) → lv 2 = some (jI x2) → lv 3 = some (jI x3) → ey (mm_xt L xs) 9 308 360 lv [] (jhm b x) r)) : ∀ lv : jL, lv 0 = some (jR (some 76)) → lv 1 = some (jI x1) → lv 2 = some (jI x2) → lv 3 = some (jI x3) → lv 4 = some (jI x4) → ey (mm_xt L xs) 9 308 294 lv [] (jhm b m) r := by
  unfold jd_308_l294 at e
  exact jlp_ok2 (P := fun s => ∀ lv : jL, lv 0 = some (jR (some 76)) → lv 1 = some (jI x1) → lv 2 = some (jI x2) → lv 3 = some (jI x3) → lv 4 = some (jI s.1) → ey (mm_xt L xs) 9 308 294 lv [] (jhm b s.2) r) (Q := fun x => (∀ lv : jL, lv 0 = some (jR (some 76)) → lv 1 = some (jI x1) → lv 2 = some (jI x2) → lv 3 = some (jI x3) → ey (mm_xt L xs) 9 308 360 lv [] (jhm b x) r)) (fun s q hq hk => jk_308_s294 hb h6 hq hk) jfu _ x e K
set_option maxRecDepth 100000 in
theorem jk_308_s363 {L : Nat} {xs : Nat → Int32} {b : jH} (hb : 152 ≤ b.1) (h6 : b.1 ≤ 1000000) {x1 : Int} {x2 : Int} {x3 : Int} {x4 : Int} {m : jM} {o : ((Int × jM) ⊕ jM)} {r : mm_R} (e : jd_308_s363 x1 x2 x3 x4 m = some o) (K : jsm (fun s => (∀ lv : jL, lv 0 = some (jR (some 76)) → lv 1 = some (jI x1) → lv 2 = some (jI x2) → lv 3 = some (jI x3) → lv 4 = some (jI s.1) → ey (mm_xt L xs) 9 308 363 lv [] (jhm b s.2) r)) (fun x => (∀ lv : jL, lv 0 = some (jR (some 76)) → lv 1 = some (jI x1) → lv 2 = some (jI x2) → ey (mm_xt L xs) 9 308 400 lv [] (jhm b x) r)) o) : ∀ lv : jL, lv 0 = some (jR (some 76)) → lv 1 = some (jI x1) → lv 2 = some (jI x2) → lv 3 = some (jI x3) → lv 4 = some (jI x4) → ey (mm_xt L xs) 9 308 363 lv [] (jhm b m) r := by
  intro lv f0 f1 f2 f3 f4
  unfold jd_308_s363 at e
  refine ey_iload (cd_308 rfl) f4 ?_
  refine ey_bipush (cd_308 rfl) (by decide) ?_
  by_cases q84 : 63 ≤ (jw x4)
  · rw [if_pos q84] at e
    refine ey_cge (cd_308 rfl) rfl rfl (show jw 63 = 63 from by decide) q84 ?_
    cases e
    exact K lv f0 f1 f2
  · rw [if_neg q84] at e
    refine ey_nge (cd_308 rfl) rfl rfl (show jw 63 = 63 from by decide) q84 ?_
    refine ey_aload_n (cd_308 rfl) f0 ?_
    refine ey_getf_r (cd_308 rfl) mt_308 rfl rfl rfl (jhm_gr (q := 101) hb rfl) ?_
    refine ey_bipush (cd_308 rfl) (by decide) ?_
    refine ey_iload_n (cd_308 rfl) f3 ?_
    refine ey_imul (cd_308 rfl) ?_
    refine ey_iload (cd_308 rfl) f4 ?_
    refine ey_iadd (cd_308 rfl) ?_
    refine ey_aload_n (cd_308 rfl) f0 ?_
    refine ey_getf_r (cd_308 rfl) mt_308 rfl rfl rfl (jhm_gr (q := 111) hb rfl) ?_
    refine ey_bipush (cd_308 rfl) (by decide) ?_
    refine ey_iload_n (cd_308 rfl) f2 ?_
    refine ey_imul (cd_308 rfl) ?_
    refine ey_iload (cd_308 rfl) f4 ?_
    refine ey_iadd (cd_308 rfl) ?_
    obtain ⟨v85, e86, e⟩ := jbind e
    refine ey_iald (cd_308 rfl) (jhm_ai hb h6 (by decide) rfl e86) ?_
    obtain ⟨m87, e88, e⟩ := jbind e
    refine ey_iast (cd_308 rfl) (jhm_ta hb (by decide) rfl e88) ?_
    refine ey_iinc (cd_308 rfl) mt_308 rfl f4 ?_
    refine ey_goto (cd_308 rfl) rfl ?_
    cases e
    exact K (jup lv 4 (jI (x4 + 1))) f0 f1 f2 (jup_pi (lv := lv) (j := 3) (v := jI (x4 + 1)) (z := x3) f3) rfl
theorem jk_308_l363 {L : Nat} {xs : Nat → Int32} {b : jH} (hb : 152 ≤ b.1) (h6 : b.1 ≤ 1000000) {x1 : Int} {x2 : Int} {x3 : Int} {x4 : Int} {m : jM} {x : jM} {r : mm_R} (e : jd_308_l363 x1 x2 x3 x4 m = some x) (K : (∀ lv : jL, lv 0 = some (jR (some 76)) → lv 1 = some (jI x1) → lv 2 = some (jI x2) → ey (mm_xt L xs) 9 308 400 lv [] (jhm b x) r)) : ∀ lv : jL, lv 0 = some (jR (some 76)) → lv 1 = some (jI x1) → lv 2 = some (jI x2) → lv 3 = some (jI x3) → lv 4 = some (jI x4) → ey (mm_xt L xs) 9 308 363 lv [] (jhm b m) r := by
  unfold jd_308_l363 at e
  exact jlp_ok2 (P := fun s => ∀ lv : jL, lv 0 = some (jR (some 76)) → lv 1 = some (jI x1) → lv 2 = some (jI x2) → lv 3 = some (jI x3) → lv 4 = some (jI s.1) → ey (mm_xt L xs) 9 308 363 lv [] (jhm b s.2) r) (Q := fun x => (∀ lv : jL, lv 0 = some (jR (some 76)) → lv 1 = some (jI x1) → lv 2 = some (jI x2) → ey (mm_xt L xs) 9 308 400 lv [] (jhm b x) r)) (fun s q hq hk => jk_308_s363 hb h6 hq hk) jfu _ x e K
set_option maxRecDepth 100000 in
theorem jk_308_s103 {L : Nat} {xs : Nat → Int32} {b : jH} (hb : 152 ≤ b.1) (h6 : b.1 ≤ 1000000) {x1 : Int} {x2 : Int} {m : jM} {o : ((Int × jM) ⊕ jM)} {r : mm_R} (e : jd_308_s103 x1 x2 m = some o) (K : jsm (fun s => (∀ lv : jL, lv 0 = some (jR (some 76)) → lv 1 = some (jI x1) → lv 2 = some (jI s.1) → ey (mm_xt L xs) 9 308 103 lv [] (jhm b s.2) r)) (fun x => (∀ lv : jL, lv 0 = some (jR (some 76)) → lv 1 = some (jI x1) → ey (mm_xt L xs) 9 308 406 lv [] (jhm b x) r)) o) : ∀ lv : jL, lv 0 = some (jR (some 76)) → lv 1 = some (jI x1) → lv 2 = some (jI x2) → ey (mm_xt L xs) 9 308 103 lv [] (jhm b m) r := by
  intro lv f0 f1 f2
  unfold jd_308_s103 at e
  refine ey_iload_n (cd_308 rfl) f2 ?_
  refine ey_aload_n (cd_308 rfl) f0 ?_
  refine ey_getf_i (z := (m 76 35)) (cd_308 rfl) mt_308 rfl rfl rfl (jhm_gi hb 35) ?_
  by_cases q22 : (jw (m 76 35)) ≤ (jw x2)
  · rw [if_pos q22] at e
    refine ey_cge (cd_308 rfl) rfl rfl rfl q22 ?_
    cases e
    exact K lv f0 f1
  · rw [if_neg q22] at e
    refine ey_nge (cd_308 rfl) rfl rfl rfl q22 ?_
    refine ey_aload_n (cd_308 rfl) f0 ?_
    refine ey_iload_n (cd_308 rfl) f2 ?_
    refine ey_iconst (cd_308 rfl) ?_
    obtain ⟨m23, e24, e⟩ := jbind e
    refine ey_cv (s0 := [jI 0, jI x2, jR (some 76)]) (s1 := []) (st' := []) (cd_308 rfl) mt_308 mt_278 rfl rfl rfl (jhm_is hb) rfl (jsml_s rfl) rfl (ok_278 hb h6 e24) ?_
    refine ey_bipush (cd_308 rfl) (by decide) ?_
    refine ey_iload_n (cd_308 rfl) f1 ?_
    refine ey_imul (cd_308 rfl) ?_
    refine ey_iload_n (cd_308 rfl) f2 ?_
    refine ey_iadd (cd_308 rfl) ?_
    refine ey_istore_n (cd_308 rfl) mt_308 rfl ?_
    refine ey_aload_n (cd_308 rfl) f0 ?_
    refine ey_getf_r (cd_308 rfl) mt_308 rfl rfl rfl (jhm_gr (q := 90) hb rfl) ?_
    refine ey_iload_n (cd_308 rfl) rfl ?_
    refine ey_aload_n (cd_308 rfl) f0 ?_
    refine ey_getf_r (cd_308 rfl) mt_308 rfl rfl rfl (jhm_gr (q := 102) hb rfl) ?_
    refine ey_iload_n (cd_308 rfl) (jup_pi (lv := lv) (j := 2) (v := jI ((12 * x1) + x2)) (z := x2) f2) ?_
    obtain ⟨v25, e26, e⟩ := jbind e
    refine ey_iald (cd_308 rfl) (jhm_ai hb h6 (by decide) rfl e26) ?_
    obtain ⟨m27, e28, e⟩ := jbind e
    refine ey_iast (cd_308 rfl) (jhm_ta hb (by decide) rfl e28) ?_
    refine ey_aload_n (cd_308 rfl) f0 ?_
    refine ey_getf_r (cd_308 rfl) mt_308 rfl rfl rfl (jhm_gr (q := 91) hb rfl) ?_
    refine ey_iload_n (cd_308 rfl) rfl ?_
    refine ey_aload_n (cd_308 rfl) f0 ?_
    refine ey_getf_r (cd_308 rfl) mt_308 rfl rfl rfl (jhm_gr (q := 103) hb rfl) ?_
    refine ey_iload_n (cd_308 rfl) (jup_pi (lv := lv) (j := 2) (v := jI ((12 * x1) + x2)) (z := x2) f2) ?_
    obtain ⟨v29, e30, e⟩ := jbind e
    refine ey_iald (cd_308 rfl) (jhm_ai hb h6 (by decide) rfl e30) ?_
    obtain ⟨m31, e32, e⟩ := jbind e
    refine ey_iast (cd_308 rfl) (jhm_ta hb (by decide) rfl e32) ?_
    refine ey_aload_n (cd_308 rfl) f0 ?_
    refine ey_getf_r (cd_308 rfl) mt_308 rfl rfl rfl (jhm_gr (q := 92) hb rfl) ?_
    refine ey_iload_n (cd_308 rfl) rfl ?_
    refine ey_aload_n (cd_308 rfl) f0 ?_
    refine ey_getf_r (cd_308 rfl) mt_308 rfl rfl rfl (jhm_gr (q := 104) hb rfl) ?_
    refine ey_iload_n (cd_308 rfl) (jup_pi (lv := lv) (j := 2) (v := jI ((12 * x1) + x2)) (z := x2) f2) ?_
    obtain ⟨v33, e34, e⟩ := jbind e
    refine ey_iald (cd_308 rfl) (jhm_ai hb h6 (by decide) rfl e34) ?_
    obtain ⟨m35, e36, e⟩ := jbind e
    refine ey_iast (cd_308 rfl) (jhm_ta hb (by decide) rfl e36) ?_
    refine ey_aload_n (cd_308 rfl) f0 ?_
    refine ey_getf_r (cd_308 rfl) mt_308 rfl rfl rfl (jhm_gr (q := 93) hb rfl) ?_
    refine ey_iload_n (cd_308 rfl) rfl ?_
    refine ey_aload_n (cd_308 rfl) f0 ?_
    refine ey_getf_r (cd_308 rfl) mt_308 rfl rfl rfl (jhm_gr (q := 105) hb rfl) ?_
    refine ey_iload_n (cd_308 rfl) (jup_pi (lv := lv) (j := 2) (v := jI ((12 * x1) + x2)) (z := x2) f2) ?_
    obtain ⟨v37, e38, e⟩ := jbind e
    refine ey_iald (cd_308 rfl) (jhm_ai hb h6 (by decide) rfl e38) ?_
    obtain ⟨m39, e40, e⟩ := jbind e
    refine ey_iast (cd_308 rfl) (jhm_ta hb (by decide) rfl e40) ?_
    refine ey_aload_n (cd_308 rfl) f0 ?_
    refine ey_getf_r (cd_308 rfl) mt_308 rfl rfl rfl (jhm_gr (q := 94) hb rfl) ?_
    refine ey_iload_n (cd_308 rfl) rfl ?_
    refine ey_aload_n (cd_308 rfl) f0 ?_
    refine ey_getf_r (cd_308 rfl) mt_308 rfl rfl rfl (jhm_gr (q := 106) hb rfl) ?_
    refine ey_iload_n (cd_308 rfl) (jup_pi (lv := lv) (j := 2) (v := jI ((12 * x1) + x2)) (z := x2) f2) ?_
    obtain ⟨v41, e42, e⟩ := jbind e
    refine ey_iald (cd_308 rfl) (jhm_ai hb h6 (by decide) rfl e42) ?_
    obtain ⟨m43, e44, e⟩ := jbind e
    refine ey_iast (cd_308 rfl) (jhm_ta hb (by decide) rfl e44) ?_
    refine ey_aload_n (cd_308 rfl) f0 ?_
    refine ey_getf_r (cd_308 rfl) mt_308 rfl rfl rfl (jhm_gr (q := 96) hb rfl) ?_
    refine ey_iload_n (cd_308 rfl) rfl ?_
    refine ey_aload_n (cd_308 rfl) f0 ?_
    refine ey_getf_r (cd_308 rfl) mt_308 rfl rfl rfl (jhm_gr (q := 107) hb rfl) ?_
    refine ey_iload_n (cd_308 rfl) (jup_pi (lv := lv) (j := 2) (v := jI ((12 * x1) + x2)) (z := x2) f2) ?_
    obtain ⟨v45, e46, e⟩ := jbind e
    refine ey_iald (cd_308 rfl) (jhm_ai hb h6 (by decide) rfl e46) ?_
    obtain ⟨m47, e48, e⟩ := jbind e
    refine ey_iast (cd_308 rfl) (jhm_ta hb (by decide) rfl e48) ?_
    refine ey_aload_n (cd_308 rfl) f0 ?_
    refine ey_getf_r (cd_308 rfl) mt_308 rfl rfl rfl (jhm_gr (q := 97) hb rfl) ?_
    refine ey_iload_n (cd_308 rfl) rfl ?_
    refine ey_aload_n (cd_308 rfl) f0 ?_
    refine ey_getf_r (cd_308 rfl) mt_308 rfl rfl rfl (jhm_gr (q := 108) hb rfl) ?_
    refine ey_iload_n (cd_308 rfl) (jup_pi (lv := lv) (j := 2) (v := jI ((12 * x1) + x2)) (z := x2) f2) ?_
    obtain ⟨v49, e50, e⟩ := jbind e
    refine ey_iald (cd_308 rfl) (jhm_ai hb h6 (by decide) rfl e50) ?_
    obtain ⟨m51, e52, e⟩ := jbind e
    refine ey_iast (cd_308 rfl) (jhm_ta hb (by decide) rfl e52) ?_
    refine ey_aload_n (cd_308 rfl) f0 ?_
    refine ey_getf_r (cd_308 rfl) mt_308 rfl rfl rfl (jhm_gr (q := 98) hb rfl) ?_
    refine ey_iload_n (cd_308 rfl) rfl ?_
    refine ey_iconst (cd_308 rfl) ?_
    obtain ⟨m53, e54, e⟩ := jbind e
    refine ey_zast (cd_308 rfl) (jhm_ta hb (by decide) rfl e54) ?_
    refine ey_aload_n (cd_308 rfl) f0 ?_
    refine ey_getf_r (cd_308 rfl) mt_308 rfl rfl rfl (jhm_gr (q := 95) hb rfl) ?_
    refine ey_iload_n (cd_308 rfl) rfl ?_
    refine ey_aload_n (cd_308 rfl) f0 ?_
    refine ey_getf_r (cd_308 rfl) mt_308 rfl rfl rfl (jhm_gr (q := 102) hb rfl) ?_
    refine ey_iload_n (cd_308 rfl) (jup_pi (lv := lv) (j := 2) (v := jI ((12 * x1) + x2)) (z := x2) f2) ?_
    obtain ⟨v55, e56, e⟩ := jbind e
    refine ey_iald (cd_308 rfl) (jhm_ai hb h6 (by decide) rfl e56) ?_
    have K91 : ∀ lv : jL, lv 0 = some (jR (some 76)) → lv 1 = some (jI x1) → lv 2 = some (jI x2) → lv 3 = some (jI ((12 * x1) + x2)) → ey (mm_xt L xs) 9 308 234 lv [jI (if (jw v55) = 0 then 1 else 0), jI ((12 * x1) + x2), jR (some 95)] (jhm b m53) r := by
      intro lv g0 g1 g2 g3
      obtain ⟨m57, e58, e⟩ := jbind e
      refine ey_zast (cd_308 rfl) (jhm_ta hb (by decide) rfl e58) ?_
      refine ey_iload_n (cd_308 rfl) g2 ?_
      refine ey_iconst (cd_308 rfl) ?_
      refine ey_iadd (cd_308 rfl) ?_
      refine ey_istore (cd_308 rfl) mt_308 rfl ?_
      obtain ⟨x71, e72, e⟩ := jbind e
      refine jk_308_l240 hb h6 e72 ?_ (jup lv 4 (jI (x2 + 1))) g0 g1 g2 (jup_pi (lv := lv) (j := 3) (v := jI (x2 + 1)) (z := ((12 * x1) + x2)) g3) rfl
      intro lv g0 g1 g2 g3
      refine ey_iconst (cd_308 rfl) ?_
      refine ey_istore (cd_308 rfl) mt_308 rfl ?_
      obtain ⟨x82, e83, e⟩ := jbind e
      refine jk_308_l294 hb h6 e83 ?_ (jup lv 4 (jI 0)) g0 g1 g2 (jup_pi (lv := lv) (j := 3) (v := jI 0) (z := ((12 * x1) + x2)) g3) rfl
      intro lv g0 g1 g2 g3
      refine ey_iconst (cd_308 rfl) ?_
      refine ey_istore (cd_308 rfl) mt_308 rfl ?_
      obtain ⟨x89, e90, e⟩ := jbind e
      refine jk_308_l363 hb h6 e90 ?_ (jup lv 4 (jI 0)) g0 g1 g2 (jup_pi (lv := lv) (j := 3) (v := jI 0) (z := ((12 * x1) + x2)) g3) rfl
      intro lv g0 g1 g2
      refine ey_iinc (cd_308 rfl) mt_308 rfl g2 ?_
      refine ey_goto (cd_308 rfl) rfl ?_
      cases e
      exact K (jup lv 2 (jI (x2 + 1))) g0 (jup_pi (lv := lv) (j := 1) (v := jI (x2 + 1)) (z := x1) g1) rfl
    by_cases q92 : (jw v55) = 0
    · refine ey_yne (cd_308 rfl) rfl rfl (fun w => w q92) ?_
      refine ey_iconst (cd_308 rfl) ?_
      refine ey_goto (cd_308 rfl) rfl ?_
      exact ey_rs (s0 := [jI 1, jI ((12 * x1) + x2), jR (some 95)]) (s1 := [jI (if (jw v55) = 0 then 1 else 0), jI ((12 * x1) + x2), jR (some 95)]) (by rw [show ((if (jw v55) = 0 then 1 else 0) : Int) = 1 from (if_pos q92)]) (K91 (jup lv 3 (jI ((12 * x1) + x2))) f0 f1 (jup_pi (lv := lv) (j := 2) (v := jI ((12 * x1) + x2)) (z := x2) f2) rfl)
    · refine ey_zne (cd_308 rfl) rfl rfl q92 ?_
      refine ey_iconst (cd_308 rfl) ?_
      exact ey_rs (s0 := [jI 0, jI ((12 * x1) + x2), jR (some 95)]) (s1 := [jI (if (jw v55) = 0 then 1 else 0), jI ((12 * x1) + x2), jR (some 95)]) (by rw [show ((if (jw v55) = 0 then 1 else 0) : Int) = 0 from (if_neg q92)]) (K91 (jup lv 3 (jI ((12 * x1) + x2))) f0 f1 (jup_pi (lv := lv) (j := 2) (v := jI ((12 * x1) + x2)) (z := x2) f2) rfl)
theorem jk_308_l103 {L : Nat} {xs : Nat → Int32} {b : jH} (hb : 152 ≤ b.1) (h6 : b.1 ≤ 1000000) {x1 : Int} {x2 : Int} {m : jM} {x : jM} {r : mm_R} (e : jd_308_l103 x1 x2 m = some x) (K : (∀ lv : jL, lv 0 = some (jR (some 76)) → lv 1 = some (jI x1) → ey (mm_xt L xs) 9 308 406 lv [] (jhm b x) r)) : ∀ lv : jL, lv 0 = some (jR (some 76)) → lv 1 = some (jI x1) → lv 2 = some (jI x2) → ey (mm_xt L xs) 9 308 103 lv [] (jhm b m) r := by
  unfold jd_308_l103 at e
  exact jlp_ok2 (P := fun s => ∀ lv : jL, lv 0 = some (jR (some 76)) → lv 1 = some (jI x1) → lv 2 = some (jI s.1) → ey (mm_xt L xs) 9 308 103 lv [] (jhm b s.2) r) (Q := fun x => (∀ lv : jL, lv 0 = some (jR (some 76)) → lv 1 = some (jI x1) → ey (mm_xt L xs) 9 308 406 lv [] (jhm b x) r)) (fun s q hq hk => jk_308_s103 hb h6 hq hk) jfu _ x e K
set_option maxRecDepth 100000 in
theorem ok_308 {L : Nat} {xs : Nat → Int32} {b : jH} (hb : 152 ≤ b.1) (h6 : b.1 ≤ 1000000)  {m : jM} {o : (Int × jM)} (e : jd_308  m = some o) : mm_Runs (mm_xt L xs) 10 308 ([jR (some 76)].map jcv) (jaH (jhm b m)) (.inl (some (jcv (jI o.1)), jaH (jhm b o.2))) := by
  refine ey_run0 _ mt_308 (jsl_s rfl) ?_
  unfold jd_308 at e
  refine ey_aload_n (cd_308 rfl) rfl ?_
  refine ey_getf_i (z := (m 76 12)) (cd_308 rfl) mt_308 rfl rfl rfl (jhm_gi hb 12) ?_
  refine ey_istore_n (cd_308 rfl) mt_308 rfl ?_
  refine ey_aload_n (cd_308 rfl) (jup_pr (lv := (jlf (jla 0 [jR (some 76)]))) (j := 0) (v := jI (m 76 12)) (z := (some 76)) rfl) ?_
  refine ey_getf_r (cd_308 rfl) mt_308 rfl rfl rfl (jhm_gr (q := 83) hb rfl) ?_
  refine ey_iload_n (cd_308 rfl) rfl ?_
  refine ey_aload_n (cd_308 rfl) (jup_pr (lv := (jlf (jla 0 [jR (some 76)]))) (j := 0) (v := jI (m 76 12)) (z := (some 76)) rfl) ?_
  refine ey_getf_i (z := (m 76 32)) (cd_308 rfl) mt_308 rfl rfl rfl (jhm_gi hb 32) ?_
  obtain ⟨m1, e2, e⟩ := jbind e
  refine ey_iast (cd_308 rfl) (jhm_ta hb (by decide) rfl e2) ?_
  refine ey_aload_n (cd_308 rfl) (jup_pr (lv := (jlf (jla 0 [jR (some 76)]))) (j := 0) (v := jI (m 76 12)) (z := (some 76)) rfl) ?_
  refine ey_getf_r (cd_308 rfl) mt_308 rfl rfl rfl (jhm_gr (q := 84) hb rfl) ?_
  refine ey_iload_n (cd_308 rfl) rfl ?_
  refine ey_aload_n (cd_308 rfl) (jup_pr (lv := (jlf (jla 0 [jR (some 76)]))) (j := 0) (v := jI (m 76 12)) (z := (some 76)) rfl) ?_
  refine ey_getf_i (z := (m1 76 33)) (cd_308 rfl) mt_308 rfl rfl rfl (jhm_gi hb 33) ?_
  obtain ⟨m3, e4, e⟩ := jbind e
  refine ey_iast (cd_308 rfl) (jhm_ta hb (by decide) rfl e4) ?_
  refine ey_aload_n (cd_308 rfl) (jup_pr (lv := (jlf (jla 0 [jR (some 76)]))) (j := 0) (v := jI (m 76 12)) (z := (some 76)) rfl) ?_
  refine ey_getf_r (cd_308 rfl) mt_308 rfl rfl rfl (jhm_gr (q := 85) hb rfl) ?_
  refine ey_iload_n (cd_308 rfl) rfl ?_
  refine ey_aload_n (cd_308 rfl) (jup_pr (lv := (jlf (jla 0 [jR (some 76)]))) (j := 0) (v := jI (m 76 12)) (z := (some 76)) rfl) ?_
  refine ey_getf_i (z := (m3 76 34)) (cd_308 rfl) mt_308 rfl rfl rfl (jhm_gi hb 34) ?_
  obtain ⟨m5, e6, e⟩ := jbind e
  refine ey_iast (cd_308 rfl) (jhm_ta hb (by decide) rfl e6) ?_
  refine ey_aload_n (cd_308 rfl) (jup_pr (lv := (jlf (jla 0 [jR (some 76)]))) (j := 0) (v := jI (m 76 12)) (z := (some 76)) rfl) ?_
  refine ey_getf_r (cd_308 rfl) mt_308 rfl rfl rfl (jhm_gr (q := 86) hb rfl) ?_
  refine ey_iload_n (cd_308 rfl) rfl ?_
  refine ey_aload_n (cd_308 rfl) (jup_pr (lv := (jlf (jla 0 [jR (some 76)]))) (j := 0) (v := jI (m 76 12)) (z := (some 76)) rfl) ?_
  refine ey_getf_r (cd_308 rfl) mt_308 rfl rfl rfl (jhm_gr (q := 112) hb rfl) ?_
  refine ey_iconst (cd_308 rfl) ?_
  obtain ⟨v7, e8, e⟩ := jbind e
  refine ey_bald (cd_308 rfl) (jhm_ab hb (by decide) rfl e8) ?_
  obtain ⟨m9, e10, e⟩ := jbind e
  refine ey_iast (cd_308 rfl) (jhm_ta hb (by decide) rfl e10) ?_
  refine ey_aload_n (cd_308 rfl) (jup_pr (lv := (jlf (jla 0 [jR (some 76)]))) (j := 0) (v := jI (m 76 12)) (z := (some 76)) rfl) ?_
  refine ey_getf_r (cd_308 rfl) mt_308 rfl rfl rfl (jhm_gr (q := 87) hb rfl) ?_
  refine ey_iload_n (cd_308 rfl) rfl ?_
  refine ey_aload_n (cd_308 rfl) (jup_pr (lv := (jlf (jla 0 [jR (some 76)]))) (j := 0) (v := jI (m 76 12)) (z := (some 76)) rfl) ?_
  refine ey_getf_i (z := (m9 76 35)) (cd_308 rfl) mt_308 rfl rfl rfl (jhm_gi hb 35) ?_
  obtain ⟨m11, e12, e⟩ := jbind e
  refine ey_iast (cd_308 rfl) (jhm_ta hb (by decide) rfl e12) ?_
  refine ey_aload_n (cd_308 rfl) (jup_pr (lv := (jlf (jla 0 [jR (some 76)]))) (j := 0) (v := jI (m 76 12)) (z := (some 76)) rfl) ?_
  refine ey_getf_r (cd_308 rfl) mt_308 rfl rfl rfl (jhm_gr (q := 88) hb rfl) ?_
  refine ey_iload_n (cd_308 rfl) rfl ?_
  refine ey_aload_n (cd_308 rfl) (jup_pr (lv := (jlf (jla 0 [jR (some 76)]))) (j := 0) (v := jI (m 76 12)) (z := (some 76)) rfl) ?_
  refine ey_getf_i (z := (m11 76 47)) (cd_308 rfl) mt_308 rfl rfl rfl (jhm_gi hb 47) ?_
  obtain ⟨m13, e14, e⟩ := jbind e
  refine ey_iast (cd_308 rfl) (jhm_ta hb (by decide) rfl e14) ?_
  refine ey_iconst (cd_308 rfl) ?_
  refine ey_istore_n (cd_308 rfl) mt_308 rfl ?_
  obtain ⟨x20, e21, e⟩ := jbind e
  refine jk_308_l69 hb h6 e21 ?_ (jup (jup (jlf (jla 0 [jR (some 76)])) 1 (jI (m 76 12))) 2 (jI 0)) (jup_o rfl (jup_pr (lv := (jlf (jla 0 [jR (some 76)]))) (j := 0) (v := jI (m 76 12)) (z := (some 76)) rfl)) (jup_pi (lv := (jup (jlf (jla 0 [jR (some 76)])) 1 (jI (m 76 12)))) (j := 1) (v := jI 0) (z := (m 76 12)) rfl) rfl
  intro lv g0 g1
  refine ey_iconst (cd_308 rfl) ?_
  refine ey_istore_n (cd_308 rfl) mt_308 rfl ?_
  obtain ⟨x93, e94, e⟩ := jbind e
  refine jk_308_l103 hb h6 e94 ?_ (jup lv 2 (jI 0)) g0 (jup_pi (lv := lv) (j := 1) (v := jI 0) (z := (m 76 12)) g1) rfl
  intro lv g0 g1
  refine ey_aload_n (cd_308 rfl) g0 ?_
  refine ey_dup (cd_308 rfl) rfl ?_
  refine ey_getf_i (z := (x93 76 12)) (cd_308 rfl) mt_308 rfl rfl rfl (jhm_gi hb 12) ?_
  refine ey_iconst (cd_308 rfl) ?_
  refine ey_iadd (cd_308 rfl) ?_
  obtain ⟨m95, e96, e⟩ := jbind e
  refine ey_putf_i (cd_308 rfl) mt_308 rfl rfl rfl (jhm_pi' (k := 12) hb e96) ?_
  refine ey_iload_n (cd_308 rfl) g1 ?_
  cases e
  exact ey_reti (cd_308 rfl) mt_308 rfl
theorem cd_300 {pc : Nat} {i : Instr × Nat} (h : mm_lk mm_c300 pc = some i) : mm_cd 300 pc = some i := h
theorem mt_300 : mm_MT 300 = (12, 6, some .int, 1, 0, []) := rfl
set_option maxRecDepth 100000 in
theorem jk_300_s73 {L : Nat} {xs : Nat → Int32} {b : jH} (hb : 152 ≤ b.1) (h6 : b.1 ≤ 1000000) {x2 : Int} {m : jM} {o : ((Int × jM) ⊕ jM)} {r : mm_R} (e : jd_300_s73 x2 m = some o) (K : jsm (fun s => (∀ lv : jL, lv 0 = some (jR (some 76)) → lv 2 = some (jI s.1) → ey (mm_xt L xs) 11 300 73 lv [] (jhm b s.2) r)) (fun x => (∀ lv : jL, lv 0 = some (jR (some 76)) → ey (mm_xt L xs) 11 300 103 lv [] (jhm b x) r)) o) : ∀ lv : jL, lv 0 = some (jR (some 76)) → lv 2 = some (jI x2) → ey (mm_xt L xs) 11 300 73 lv [] (jhm b m) r := by
  intro lv f0 f2
  unfold jd_300_s73 at e
  refine ey_iload_n (cd_300 rfl) f2 ?_
  refine ey_sipush (cd_300 rfl) (by decide) ?_
  refine ey_aload_n (cd_300 rfl) f0 ?_
  refine ey_getf_i (z := (m 76 7)) (cd_300 rfl) mt_300 rfl rfl rfl (jhm_gi hb 7) ?_
  refine ey_imul (cd_300 rfl) ?_
  by_cases q10 : (jw (864 * (m 76 7))) ≤ (jw x2)
  · rw [if_pos q10] at e
    refine ey_cge (cd_300 rfl) rfl rfl rfl q10 ?_
    cases e
    exact K lv f0
  · rw [if_neg q10] at e
    refine ey_nge (cd_300 rfl) rfl rfl rfl q10 ?_
    refine ey_aload_n (cd_300 rfl) f0 ?_
    refine ey_getf_r (cd_300 rfl) mt_300 rfl rfl rfl (jhm_gr (q := 121) hb rfl) ?_
    refine ey_iload_n (cd_300 rfl) f2 ?_
    refine ey_aload_n (cd_300 rfl) f0 ?_
    refine ey_getf_r (cd_300 rfl) mt_300 rfl rfl rfl (jhm_gr (q := 81) hb rfl) ?_
    refine ey_iload_n (cd_300 rfl) f2 ?_
    obtain ⟨v11, e12, e⟩ := jbind e
    refine ey_iald (cd_300 rfl) (jhm_ai hb h6 (by decide) rfl e12) ?_
    obtain ⟨m13, e14, e⟩ := jbind e
    refine ey_iast (cd_300 rfl) (jhm_ta hb (by decide) rfl e14) ?_
    refine ey_iinc (cd_300 rfl) mt_300 rfl f2 ?_
    refine ey_goto (cd_300 rfl) rfl ?_
    cases e
    exact K (jup lv 2 (jI (x2 + 1))) f0 rfl
theorem jk_300_l73 {L : Nat} {xs : Nat → Int32} {b : jH} (hb : 152 ≤ b.1) (h6 : b.1 ≤ 1000000) {x2 : Int} {m : jM} {x : jM} {r : mm_R} (e : jd_300_l73 x2 m = some x) (K : (∀ lv : jL, lv 0 = some (jR (some 76)) → ey (mm_xt L xs) 11 300 103 lv [] (jhm b x) r)) : ∀ lv : jL, lv 0 = some (jR (some 76)) → lv 2 = some (jI x2) → ey (mm_xt L xs) 11 300 73 lv [] (jhm b m) r := by
  unfold jd_300_l73 at e
  exact jlp_ok2 (P := fun s => ∀ lv : jL, lv 0 = some (jR (some 76)) → lv 2 = some (jI s.1) → ey (mm_xt L xs) 11 300 73 lv [] (jhm b s.2) r) (Q := fun x => (∀ lv : jL, lv 0 = some (jR (some 76)) → ey (mm_xt L xs) 11 300 103 lv [] (jhm b x) r)) (fun s q hq hk => jk_300_s73 hb h6 hq hk) jfu _ x e K
set_option maxRecDepth 100000 in
theorem jk_300_b253 {L : Nat} {xs : Nat → Int32} {b : jH} (hb : 152 ≤ b.1) (h6 : b.1 ≤ 1000000) {x2 : Int} {x3 : Int} {x4 : Int} {y0 : Int} {m : jM} {o : ((Int × jM) ⊕ (jM ⊕ jM))} {r : mm_R} (e : jd_300_b253 x2 x3 x4 y0 m = some o) (K : jsm (fun s => (∀ lv : jL, lv 0 = some (jR (some 76)) → lv 2 = some (jI x2) → lv 3 = some (jI x3) → lv 4 = some (jI s.1) → ey (mm_xt L xs) 11 300 186 lv [] (jhm b s.2) r)) (fun x => (jsm (fun y => (∀ lv : jL, ey (mm_xt L xs) 11 300 275 lv [] (jhm b y) r)) (fun z => (∀ lv : jL, lv 0 = some (jR (some 76)) → ey (mm_xt L xs) 11 300 287 lv [] (jhm b z) r)) x)) o) : ∀ lv : jL, lv 0 = some (jR (some 76)) → lv 2 = some (jI x2) → lv 3 = some (jI x3) → lv 4 = some (jI x4) → ey (mm_xt L xs) 11 300 253 lv [jI y0] (jhm b m) r := by
  intro lv f0 f2 f3 f4
  unfold jd_300_b253 at e
  refine ey_istore (cd_300 rfl) mt_300 rfl ?_
  refine ey_aload_n (cd_300 rfl) f0 ?_
  refine ey_iload (cd_300 rfl) (jup_pi (lv := lv) (j := 4) (v := jI y0) (z := x4) f4) ?_
  refine ey_iload (cd_300 rfl) rfl ?_
  refine ey_iload (cd_300 rfl) (jup_pi (lv := lv) (j := 4) (v := jI y0) (z := x4) f4) ?_
  refine ey_aload_n (cd_300 rfl) f0 ?_
  refine ey_getf_r (cd_300 rfl) mt_300 rfl rfl rfl (jhm_gr (q := 82) hb rfl) ?_
  refine ey_iconst (cd_300 rfl) ?_
  obtain ⟨v35, e36, e⟩ := jbind e
  refine ey_iald (cd_300 rfl) (jhm_ai hb h6 (by decide) rfl e36) ?_
  refine ey_iload_n (cd_300 rfl) f3 ?_
  obtain ⟨q37, e38, e⟩ := jbind e
  refine ey_cv (s0 := [jI x3, jI v35, jI x4, jI y0, jI x4, jR (some 76)]) (s1 := []) (st' := [jI q37.1]) (cd_300 rfl) mt_300 mt_294 rfl rfl rfl (jhm_is hb) rfl (jsml_s rfl) rfl (mm_Runs.up (d := 10) (by decide) (ok_294 hb h6 e38)) ?_
  by_cases q39 : (jw q37.1) = 0
  · rw [if_pos q39] at e
    refine ey_yne (cd_300 rfl) rfl rfl (fun w => w q39) ?_
    cases e
    exact K (jup lv 5 (jI y0)) 
  · rw [if_neg q39] at e
    refine ey_zne (cd_300 rfl) rfl rfl q39 ?_
    refine ey_iload (cd_300 rfl) (jup_pi (lv := lv) (j := 4) (v := jI y0) (z := x4) f4) ?_
    refine ey_iload (cd_300 rfl) rfl ?_
    refine ey_iadd (cd_300 rfl) ?_
    refine ey_istore (cd_300 rfl) mt_300 rfl ?_
    refine ey_goto (cd_300 rfl) rfl ?_
    cases e
    exact K (jup (jup lv 5 (jI y0)) 4 (jI (x4 + y0))) f0 f2 (jup_pi (lv := (jup lv 5 (jI y0))) (j := 3) (v := jI (x4 + y0)) (z := x3) f3) rfl
set_option maxRecDepth 100000 in
theorem jk_300_b227 {L : Nat} {xs : Nat → Int32} {b : jH} (hb : 152 ≤ b.1) (h6 : b.1 ≤ 1000000) {x2 : Int} {x3 : Int} {x4 : Int} {y0 : Int} {m : jM} {o : ((Int × jM) ⊕ (jM ⊕ jM))} {r : mm_R} (e : jd_300_b227 x2 x3 x4 y0 m = some o) (K : jsm (fun s => (∀ lv : jL, lv 0 = some (jR (some 76)) → lv 2 = some (jI x2) → lv 3 = some (jI x3) → lv 4 = some (jI s.1) → ey (mm_xt L xs) 11 300 186 lv [] (jhm b s.2) r)) (fun x => (jsm (fun y => (∀ lv : jL, ey (mm_xt L xs) 11 300 275 lv [] (jhm b y) r)) (fun z => (∀ lv : jL, lv 0 = some (jR (some 76)) → ey (mm_xt L xs) 11 300 287 lv [] (jhm b z) r)) x)) o) : ∀ lv : jL, lv 0 = some (jR (some 76)) → lv 2 = some (jI x2) → lv 3 = some (jI x3) → lv 4 = some (jI x4) → ey (mm_xt L xs) 11 300 227 lv [jI y0] (jhm b m) r := by
  intro lv f0 f2 f3 f4
  unfold jd_300_b227 at e
  refine ey_istore (cd_300 rfl) mt_300 rfl ?_
  refine ey_iload (cd_300 rfl) rfl ?_
  refine ey_aload_n (cd_300 rfl) f0 ?_
  refine ey_getf_i (z := (m 76 7)) (cd_300 rfl) mt_300 rfl rfl rfl (jhm_gi hb 7) ?_
  refine ey_iload (cd_300 rfl) (jup_pi (lv := lv) (j := 4) (v := jI y0) (z := x4) f4) ?_
  refine ey_isub (cd_300 rfl) ?_
  have K40 : ∀ lv : jL, lv 0 = some (jR (some 76)) → lv 2 = some (jI x2) → lv 3 = some (jI x3) → lv 4 = some (jI x4) → ey (mm_xt L xs) 11 300 253 lv [jI (if (jw ((m 76 7) - x4)) ≤ (jw y0) then ((m 76 7) - x4) else y0)] (jhm b m) r := by
    intro lv g0 g2 g3 g4
    exact jk_300_b253 hb h6 e K lv g0 g2 g3 g4
  by_cases q41 : (jw ((m 76 7) - x4)) ≤ (jw y0)
  · refine ey_cge (cd_300 rfl) rfl rfl rfl q41 ?_
    refine ey_aload_n (cd_300 rfl) f0 ?_
    refine ey_getf_i (z := (m 76 7)) (cd_300 rfl) mt_300 rfl rfl rfl (jhm_gi hb 7) ?_
    refine ey_iload (cd_300 rfl) (jup_pi (lv := lv) (j := 4) (v := jI y0) (z := x4) f4) ?_
    refine ey_isub (cd_300 rfl) ?_
    exact ey_rs (s0 := [jI ((m 76 7) - x4)]) (s1 := [jI (if (jw ((m 76 7) - x4)) ≤ (jw y0) then ((m 76 7) - x4) else y0)]) (by rw [show ((if (jw ((m 76 7) - x4)) ≤ (jw y0) then ((m 76 7) - x4) else y0) : Int) = ((m 76 7) - x4) from (if_pos q41)]) (K40 (jup lv 5 (jI y0)) f0 f2 f3 (jup_pi (lv := lv) (j := 4) (v := jI y0) (z := x4) f4))
  · refine ey_nge (cd_300 rfl) rfl rfl rfl q41 ?_
    refine ey_iload (cd_300 rfl) rfl ?_
    refine ey_goto (cd_300 rfl) rfl ?_
    exact ey_rs (s0 := [jI y0]) (s1 := [jI (if (jw ((m 76 7) - x4)) ≤ (jw y0) then ((m 76 7) - x4) else y0)]) (by rw [show ((if (jw ((m 76 7) - x4)) ≤ (jw y0) then ((m 76 7) - x4) else y0) : Int) = y0 from (if_neg q41)]) (K40 (jup lv 5 (jI y0)) f0 f2 f3 (jup_pi (lv := lv) (j := 4) (v := jI y0) (z := x4) f4))
set_option maxRecDepth 100000 in
theorem jk_300_s186 {L : Nat} {xs : Nat → Int32} {b : jH} (hb : 152 ≤ b.1) (h6 : b.1 ≤ 1000000) {x2 : Int} {x3 : Int} {x4 : Int} {m : jM} {o : ((Int × jM) ⊕ (jM ⊕ jM))} {r : mm_R} (e : jd_300_s186 x2 x3 x4 m = some o) (K : jsm (fun s => (∀ lv : jL, lv 0 = some (jR (some 76)) → lv 2 = some (jI x2) → lv 3 = some (jI x3) → lv 4 = some (jI s.1) → ey (mm_xt L xs) 11 300 186 lv [] (jhm b s.2) r)) (fun x => (jsm (fun y => (∀ lv : jL, ey (mm_xt L xs) 11 300 275 lv [] (jhm b y) r)) (fun z => (∀ lv : jL, lv 0 = some (jR (some 76)) → ey (mm_xt L xs) 11 300 287 lv [] (jhm b z) r)) x)) o) : ∀ lv : jL, lv 0 = some (jR (some 76)) → lv 2 = some (jI x2) → lv 3 = some (jI x3) → lv 4 = some (jI x4) → ey (mm_xt L xs) 11 300 186 lv [] (jhm b m) r := by
  intro lv f0 f2 f3 f4
  unfold jd_300_s186 at e
  refine ey_iload (cd_300 rfl) f4 ?_
  refine ey_aload_n (cd_300 rfl) f0 ?_
  refine ey_getf_i (z := (m 76 7)) (cd_300 rfl) mt_300 rfl rfl rfl (jhm_gi hb 7) ?_
  by_cases q32 : (jw (m 76 7)) ≤ (jw x4)
  · rw [if_pos q32] at e
    refine ey_cge (cd_300 rfl) rfl rfl rfl q32 ?_
    cases e
    exact K lv f0
  · rw [if_neg q32] at e
    refine ey_nge (cd_300 rfl) rfl rfl rfl q32 ?_
    refine ey_iload_n (cd_300 rfl) f2 ?_
    by_cases q33 : (jw x2) = 0
    · rw [if_pos q33] at e
      refine ey_zeq (cd_300 rfl) rfl rfl q33 ?_
      refine ey_aload_n (cd_300 rfl) f0 ?_
      refine ey_getf_i (z := (m 76 32)) (cd_300 rfl) mt_300 rfl rfl rfl (jhm_gi hb 32) ?_
      refine ey_iconst (cd_300 rfl) ?_
      by_cases q34 : (jw (m 76 32)) = 1
      · rw [if_pos q34] at e
        refine ey_nne (cd_300 rfl) rfl rfl (show jw 1 = 1 from by decide) (fun w => w q34) ?_
        refine ey_iconst (cd_300 rfl) ?_
        refine ey_goto (cd_300 rfl) rfl ?_
        exact jk_300_b227 hb h6 e K lv f0 f2 f3 f4
      · rw [if_neg q34] at e
        refine ey_cne (cd_300 rfl) rfl rfl (show jw 1 = 1 from by decide) q34 ?_
        refine ey_aload_n (cd_300 rfl) f0 ?_
        refine ey_getf_r (cd_300 rfl) mt_300 rfl rfl rfl (jhm_gr (q := 82) hb rfl) ?_
        refine ey_iconst (cd_300 rfl) ?_
        obtain ⟨v42, e43, e⟩ := jbind e
        refine ey_iald (cd_300 rfl) (jhm_ai hb h6 (by decide) rfl e43) ?_
        exact jk_300_b227 hb h6 e K lv f0 f2 f3 f4
    · rw [if_neg q33] at e
      refine ey_yeq (cd_300 rfl) rfl rfl q33 ?_
      refine ey_aload_n (cd_300 rfl) f0 ?_
      refine ey_getf_r (cd_300 rfl) mt_300 rfl rfl rfl (jhm_gr (q := 130) hb rfl) ?_
      refine ey_iload (cd_300 rfl) f4 ?_
      obtain ⟨v44, e45, e⟩ := jbind e
      refine ey_iald (cd_300 rfl) (jhm_ai hb h6 (by decide) rfl e45) ?_
      refine ey_goto (cd_300 rfl) rfl ?_
      exact jk_300_b227 hb h6 e K lv f0 f2 f3 f4
theorem jk_300_l186 {L : Nat} {xs : Nat → Int32} {b : jH} (hb : 152 ≤ b.1) (h6 : b.1 ≤ 1000000) {x2 : Int} {x3 : Int} {x4 : Int} {m : jM} {x : (jM ⊕ jM)} {r : mm_R} (e : jd_300_l186 x2 x3 x4 m = some x) (K : (jsm (fun y => (∀ lv : jL, ey (mm_xt L xs) 11 300 275 lv [] (jhm b y) r)) (fun z => (∀ lv : jL, lv 0 = some (jR (some 76)) → ey (mm_xt L xs) 11 300 287 lv [] (jhm b z) r)) x)) : ∀ lv : jL, lv 0 = some (jR (some 76)) → lv 2 = some (jI x2) → lv 3 = some (jI x3) → lv 4 = some (jI x4) → ey (mm_xt L xs) 11 300 186 lv [] (jhm b m) r := by
  unfold jd_300_l186 at e
  exact jlp_ok2 (P := fun s => ∀ lv : jL, lv 0 = some (jR (some 76)) → lv 2 = some (jI x2) → lv 3 = some (jI x3) → lv 4 = some (jI s.1) → ey (mm_xt L xs) 11 300 186 lv [] (jhm b s.2) r) (Q := fun x => (jsm (fun y => (∀ lv : jL, ey (mm_xt L xs) 11 300 275 lv [] (jhm b y) r)) (fun z => (∀ lv : jL, lv 0 = some (jR (some 76)) → ey (mm_xt L xs) 11 300 287 lv [] (jhm b z) r)) x)) (fun s q hq hk => jk_300_s186 hb h6 hq hk) jfu _ x e K
set_option maxRecDepth 100000 in
theorem jk_300_b307 {L : Nat} {xs : Nat → Int32} {b : jH} (hb : 152 ≤ b.1) (h6 : b.1 ≤ 1000000) {y0 : Int} {m : jM} {o : (Int × jM)} (e : jd_300_b307 y0 m = some o) : ∀ lv : jL, ey (mm_xt L xs) 11 300 307 lv [jI y0] (jhm b m) (.inl (some (jcv (jI o.1)), jaH (jhm b o.2))) := by
  intro lv 
  unfold jd_300_b307 at e
  cases e
  exact ey_reti (cd_300 rfl) mt_300 rfl
set_option maxRecDepth 100000 in
theorem jk_300_b182 {L : Nat} {xs : Nat → Int32} {b : jH} (hb : 152 ≤ b.1) (h6 : b.1 ≤ 1000000) {x2 : Int} {y0 : Int} {m : jM} {o : (Int × jM)} (e : jd_300_b182 x2 y0 m = some o) : ∀ lv : jL, lv 0 = some (jR (some 76)) → lv 2 = some (jI x2) → ey (mm_xt L xs) 11 300 182 lv [jI y0] (jhm b m) (.inl (some (jcv (jI o.1)), jaH (jhm b o.2))) := by
  intro lv f0 f2
  unfold jd_300_b182 at e
  refine ey_istore_n (cd_300 rfl) mt_300 rfl ?_
  refine ey_iconst (cd_300 rfl) ?_
  refine ey_istore (cd_300 rfl) mt_300 rfl ?_
  obtain ⟨x46, e47, e⟩ := jbind e
  refine jk_300_l186 hb h6 e47 ?_ (jup (jup lv 3 (jI y0)) 4 (jI 0)) f0 (jup_o rfl (jup_pi (lv := lv) (j := 2) (v := jI y0) (z := x2) f2)) (jup_pi (lv := (jup lv 3 (jI y0))) (j := 3) (v := jI 0) (z := y0) rfl) rfl
  cases x46 with
  | inl y48 =>
    replace e : (some ((-1), y48) : Option (Int × jM)) = some o := e
    intro lv 
    refine ey_iconst (cd_300 rfl) ?_
    cases e
    exact ey_reti (cd_300 rfl) mt_300 rfl
  | inr y49 =>
    replace e : (((jd_301 y49).bind fun q50 => (if (jw q50.1) = (-1) then ((jd_308 q50.2).bind fun q53 => jd_300_b307 q53.1 q53.2) else jd_300_b307 (-1) q50.2)) : Option (Int × jM)) = some o := e
    intro lv g0
    refine ey_aload_n (cd_300 rfl) g0 ?_
    obtain ⟨q50, e51, e⟩ := jbind e
    refine ey_cv (s0 := [jR (some 76)]) (s1 := []) (st' := [jI q50.1]) (cd_300 rfl) mt_300 mt_301 rfl rfl rfl (jhm_is hb) rfl (jsml_s rfl) rfl (mm_Runs.up (d := 5) (by decide) (ok_301 hb h6 e51)) ?_
    refine ey_istore (cd_300 rfl) mt_300 rfl ?_
    refine ey_iload (cd_300 rfl) rfl ?_
    refine ey_iconst (cd_300 rfl) ?_
    by_cases q52 : (jw q50.1) = (-1)
    · rw [if_pos q52] at e
      refine ey_nne (cd_300 rfl) rfl rfl (show jw (-1) = (-1) from by decide) (fun w => w q52) ?_
      refine ey_aload_n (cd_300 rfl) g0 ?_
      obtain ⟨q53, e54, e⟩ := jbind e
      refine ey_cv (s0 := [jR (some 76)]) (s1 := []) (st' := [jI q53.1]) (cd_300 rfl) mt_300 mt_308 rfl rfl rfl (jhm_is hb) rfl (jsml_s rfl) rfl (mm_Runs.up (d := 10) (by decide) (ok_308 hb h6 e54)) ?_
      refine ey_goto (cd_300 rfl) rfl ?_
      exact jk_300_b307 hb h6 e (jup lv 5 (jI q50.1)) 
    · rw [if_neg q52] at e
      refine ey_cne (cd_300 rfl) rfl rfl (show jw (-1) = (-1) from by decide) q52 ?_
      refine ey_iconst (cd_300 rfl) ?_
      exact jk_300_b307 hb h6 e (jup lv 5 (jI q50.1)) 
set_option maxRecDepth 100000 in
theorem jk_300_b135 {L : Nat} {xs : Nat → Int32} {b : jH} (hb : 152 ≤ b.1) (h6 : b.1 ≤ 1000000) {x2 : Int} {m : jM} {o : (Int × jM)} (e : jd_300_b135 x2 m = some o) : ∀ lv : jL, lv 0 = some (jR (some 76)) → lv 2 = some (jI x2) → ey (mm_xt L xs) 11 300 135 lv [] (jhm b m) (.inl (some (jcv (jI o.1)), jaH (jhm b o.2))) := by
  intro lv f0 f2
  unfold jd_300_b135 at e
  refine ey_aload_n (cd_300 rfl) f0 ?_
  refine ey_aload_n (cd_300 rfl) f0 ?_
  refine ey_getf_r (cd_300 rfl) mt_300 rfl rfl rfl (jhm_gr (q := 82) hb rfl) ?_
  refine ey_iconst (cd_300 rfl) ?_
  obtain ⟨v21, e22, e⟩ := jbind e
  refine ey_iald (cd_300 rfl) (jhm_ai hb h6 (by decide) rfl e22) ?_
  refine ey_aload_n (cd_300 rfl) f0 ?_
  refine ey_getf_i (z := (m 76 7)) (cd_300 rfl) mt_300 rfl rfl rfl (jhm_gi hb 7) ?_
  obtain ⟨m23, e24, e⟩ := jbind e
  refine ey_cv (s0 := [jI (m 76 7), jI v21, jR (some 76)]) (s1 := []) (st' := []) (cd_300 rfl) mt_300 mt_295 rfl rfl rfl (jhm_is hb) rfl (jsml_s rfl) rfl (mm_Runs.up (d := 2) (by decide) (ok_295 hb h6 e24)) ?_
  refine ey_aload_n (cd_300 rfl) f0 ?_
  refine ey_aload_n (cd_300 rfl) f0 ?_
  refine ey_getf_r (cd_300 rfl) mt_300 rfl rfl rfl (jhm_gr (q := 82) hb rfl) ?_
  refine ey_iconst (cd_300 rfl) ?_
  obtain ⟨v25, e26, e⟩ := jbind e
  refine ey_iald (cd_300 rfl) (jhm_ai hb h6 (by decide) rfl e26) ?_
  refine ey_iconst (cd_300 rfl) ?_
  refine ey_idiv (cd_300 rfl) (by decide) ?_
  obtain ⟨m27, e28, e⟩ := jbind e
  refine ey_putf_i (cd_300 rfl) mt_300 rfl rfl rfl (jhm_pi' (k := 82) hb e28) ?_
  refine ey_aload_n (cd_300 rfl) f0 ?_
  refine ey_getf_i (z := (m27 76 32)) (cd_300 rfl) mt_300 rfl rfl rfl (jhm_gi hb 32) ?_
  by_cases q29 : (jw (m27 76 32)) = 0
  · rw [if_pos q29] at e
    refine ey_yne (cd_300 rfl) rfl rfl (fun w => w q29) ?_
    refine ey_aload_n (cd_300 rfl) f0 ?_
    refine ey_getf_r (cd_300 rfl) mt_300 rfl rfl rfl (jhm_gr (q := 82) hb rfl) ?_
    refine ey_iconst (cd_300 rfl) ?_
    obtain ⟨v30, e31, e⟩ := jbind e
    refine ey_iald (cd_300 rfl) (jhm_ai hb h6 (by decide) rfl e31) ?_
    have K55 : ∀ lv : jL, lv 0 = some (jR (some 76)) → lv 2 = some (jI x2) → ey (mm_xt L xs) 11 300 182 lv [jI (if (jw v30) ≤ 0 then 0 else 1)] (jhm b m27) (.inl (some (jcv (jI o.1)), jaH (jhm b o.2))) := by
      intro lv g0 g2
      exact jk_300_b182 hb h6 e lv g0 g2
    by_cases q56 : (jw v30) ≤ 0
    · refine ey_zle (cd_300 rfl) rfl rfl q56 ?_
      refine ey_iconst (cd_300 rfl) ?_
      exact ey_rs (s0 := [jI 0]) (s1 := [jI (if (jw v30) ≤ 0 then 0 else 1)]) (by rw [show ((if (jw v30) ≤ 0 then 0 else 1) : Int) = 0 from (if_pos q56)]) (K55 lv f0 f2)
    · refine ey_yle (cd_300 rfl) rfl rfl q56 ?_
      refine ey_iconst (cd_300 rfl) ?_
      refine ey_goto (cd_300 rfl) rfl ?_
      exact ey_rs (s0 := [jI 1]) (s1 := [jI (if (jw v30) ≤ 0 then 0 else 1)]) (by rw [show ((if (jw v30) ≤ 0 then 0 else 1) : Int) = 1 from (if_neg q56)]) (K55 lv f0 f2)
  · rw [if_neg q29] at e
    refine ey_zne (cd_300 rfl) rfl rfl q29 ?_
    refine ey_iconst (cd_300 rfl) ?_
    exact jk_300_b182 hb h6 e lv f0 f2
set_option maxRecDepth 100000 in
theorem jk_300_b126 {L : Nat} {xs : Nat → Int32} {b : jH} (hb : 152 ≤ b.1) (h6 : b.1 ≤ 1000000) {y0 : Int} {m : jM} {o : (Int × jM)} (e : jd_300_b126 y0 m = some o) : ∀ lv : jL, lv 0 = some (jR (some 76)) → ey (mm_xt L xs) 11 300 126 lv [jI y0] (jhm b m) (.inl (some (jcv (jI o.1)), jaH (jhm b o.2))) := by
  intro lv f0
  unfold jd_300_b126 at e
  refine ey_istore_n (cd_300 rfl) mt_300 rfl ?_
  refine ey_iload_n (cd_300 rfl) rfl ?_
  by_cases q20 : (jw y0) = 0
  · rw [if_pos q20] at e
    refine ey_zeq (cd_300 rfl) rfl rfl q20 ?_
    exact jk_300_b135 hb h6 e (jup lv 2 (jI y0)) f0 rfl
  · rw [if_neg q20] at e
    refine ey_yeq (cd_300 rfl) rfl rfl q20 ?_
    refine ey_aload_n (cd_300 rfl) f0 ?_
    obtain ⟨m57, e58, e⟩ := jbind e
    refine ey_cv (s0 := [jR (some 76)]) (s1 := []) (st' := []) (cd_300 rfl) mt_300 mt_299 rfl rfl rfl (jhm_is hb) rfl (jsml_s rfl) rfl (ok_299 hb h6 e58) ?_
    exact jk_300_b135 hb h6 e (jup lv 2 (jI y0)) f0 rfl
set_option maxRecDepth 100000 in
theorem jk_300_b38 {L : Nat} {xs : Nat → Int32} {b : jH} (hb : 152 ≤ b.1) (h6 : b.1 ≤ 1000000) {x1 : Int} {y0 : Int} {m : jM} {o : (Int × jM)} (e : jd_300_b38 x1 y0 m = some o) : ∀ lv : jL, lv 0 = some (jR (some 76)) → lv 1 = some (jI x1) → ey (mm_xt L xs) 11 300 38 lv [jI y0, jR (some 76)] (jhm b m) (.inl (some (jcv (jI o.1)), jaH (jhm b o.2))) := by
  intro lv f0 f1
  unfold jd_300_b38 at e
  obtain ⟨m1, e2, e⟩ := jbind e
  refine ey_putf_i (cd_300 rfl) mt_300 rfl rfl rfl (jhm_pi' (k := 0) hb e2) ?_
  refine ey_aload_n (cd_300 rfl) f0 ?_
  refine ey_getf_i (z := (m1 76 0)) (cd_300 rfl) mt_300 rfl rfl rfl (jhm_gi hb 0) ?_
  by_cases q3 : (jw (m1 76 0)) ≤ 0
  · rw [if_pos q3] at e
    refine ey_zle (cd_300 rfl) rfl rfl q3 ?_
    refine ey_aload_n (cd_300 rfl) f0 ?_
    refine ey_iload_n (cd_300 rfl) f1 ?_
    obtain ⟨m4, e5, e⟩ := jbind e
    refine ey_putf_i (cd_300 rfl) mt_300 rfl rfl rfl (jhm_pi' (k := 32) hb e5) ?_
    refine ey_aload_n (cd_300 rfl) f0 ?_
    refine ey_aload_n (cd_300 rfl) f0 ?_
    refine ey_getf_i (z := (m4 76 8)) (cd_300 rfl) mt_300 rfl rfl rfl (jhm_gi hb 8) ?_
    obtain ⟨m6, e7, e⟩ := jbind e
    refine ey_putf_i (cd_300 rfl) mt_300 rfl rfl rfl (jhm_pi' (k := 33) hb e7) ?_
    refine ey_aload_n (cd_300 rfl) f0 ?_
    refine ey_aload_n (cd_300 rfl) f0 ?_
    refine ey_getf_i (z := (m6 76 9)) (cd_300 rfl) mt_300 rfl rfl rfl (jhm_gi hb 9) ?_
    obtain ⟨m8, e9, e⟩ := jbind e
    refine ey_putf_i (cd_300 rfl) mt_300 rfl rfl rfl (jhm_pi' (k := 34) hb e9) ?_
    refine ey_iconst (cd_300 rfl) ?_
    refine ey_istore_n (cd_300 rfl) mt_300 rfl ?_
    obtain ⟨x15, e16, e⟩ := jbind e
    refine jk_300_l73 hb h6 e16 ?_ (jup lv 2 (jI 0)) f0 rfl
    intro lv g0
    refine ey_aload_n (cd_300 rfl) g0 ?_
    refine ey_getf_i (z := (x15 76 32)) (cd_300 rfl) mt_300 rfl rfl rfl (jhm_gi hb 32) ?_
    by_cases q17 : (jw (x15 76 32)) = 0
    · rw [if_pos q17] at e
      refine ey_yne (cd_300 rfl) rfl rfl (fun w => w q17) ?_
      refine ey_aload_n (cd_300 rfl) g0 ?_
      refine ey_getf_r (cd_300 rfl) mt_300 rfl rfl rfl (jhm_gr (q := 82) hb rfl) ?_
      refine ey_bipush (cd_300 rfl) (by decide) ?_
      obtain ⟨v18, e19, e⟩ := jbind e
      refine ey_iald (cd_300 rfl) (jhm_ai hb h6 (by decide) rfl e19) ?_
      refine ey_iconst (cd_300 rfl) ?_
      have K59 : ∀ lv : jL, lv 0 = some (jR (some 76)) → ey (mm_xt L xs) 11 300 126 lv [jI (if (jw v18) = 1 then 1 else 0)] (jhm b x15) (.inl (some (jcv (jI o.1)), jaH (jhm b o.2))) := by
        intro lv g0
        exact jk_300_b126 hb h6 e lv g0
      by_cases q60 : (jw v18) = 1
      · refine ey_nne (cd_300 rfl) rfl rfl (show jw 1 = 1 from by decide) (fun w => w q60) ?_
        refine ey_iconst (cd_300 rfl) ?_
        refine ey_goto (cd_300 rfl) rfl ?_
        exact ey_rs (s0 := [jI 1]) (s1 := [jI (if (jw v18) = 1 then 1 else 0)]) (by rw [show ((if (jw v18) = 1 then 1 else 0) : Int) = 1 from (if_pos q60)]) (K59 lv g0)
      · refine ey_cne (cd_300 rfl) rfl rfl (show jw 1 = 1 from by decide) q60 ?_
        refine ey_iconst (cd_300 rfl) ?_
        exact ey_rs (s0 := [jI 0]) (s1 := [jI (if (jw v18) = 1 then 1 else 0)]) (by rw [show ((if (jw v18) = 1 then 1 else 0) : Int) = 0 from (if_neg q60)]) (K59 lv g0)
    · rw [if_neg q17] at e
      refine ey_zne (cd_300 rfl) rfl rfl q17 ?_
      refine ey_iconst (cd_300 rfl) ?_
      exact jk_300_b126 hb h6 e lv g0
  · rw [if_neg q3] at e
    refine ey_yle (cd_300 rfl) rfl rfl q3 ?_
    refine ey_iconst (cd_300 rfl) ?_
    cases e
    exact ey_reti (cd_300 rfl) mt_300 rfl
set_option maxRecDepth 100000 in
theorem ok_300 {L : Nat} {xs : Nat → Int32} {b : jH} (hb : 152 ≤ b.1) (h6 : b.1 ≤ 1000000) {p0 : Int} {m : jM} {o : (Int × jM)} (e : jd_300 p0 m = some o) : mm_Runs (mm_xt L xs) 12 300 ([jR (some 76), jI p0].map jcv) (jaH (jhm b m)) (.inl (some (jcv (jI o.1)), jaH (jhm b o.2))) := by
  refine ey_run0 _ mt_300 (jsl_s rfl) ?_
  unfold jd_300 at e
  refine ey_aload_n (cd_300 rfl) rfl ?_
  refine ey_iload_n (cd_300 rfl) rfl ?_
  refine ey_i2l (cd_300 rfl) ?_
  refine ey_lconst0 (cd_300 rfl) ?_
  refine ey_ldc2 (z := 2) (cd_300 rfl) mt_300 rfl (by decide) ?_
  refine ey_cs (s0 := [jJ 2, jJ 0, jJ (jw p0), jR (some 76)]) (s1 := [jR (some 76)]) (st' := [jI (jd_204 (jw p0) 0 2), jR (some 76)]) (cd_300 rfl) mt_300 mt_204 rfl (by decide) rfl rfl (jsml_s rfl) rfl (mm_Runs.up (d := 1) (by decide) (ok_204 )) ?_
  have K61 : ∀ lv : jL, lv 0 = some (jR (some 76)) → lv 1 = some (jI p0) → ey (mm_xt L xs) 11 300 38 lv [jI (if (jw (jd_204 (jw p0) 0 2)) = 0 then 1 else (if (jw (m 76 7)) = 0 then 1 else (if (jw (m 76 12)) = 8 then 2 else 0))), jR (some 76)] (jhm b m) (.inl (some (jcv (jI o.1)), jaH (jhm b o.2))) := by
    intro lv g0 g1
    exact jk_300_b38 hb h6 e lv g0 g1
  by_cases q62 : (jw (jd_204 (jw p0) 0 2)) = 0
  · refine ey_zeq (cd_300 rfl) rfl rfl q62 ?_
    refine ey_iconst (cd_300 rfl) ?_
    refine ey_goto (cd_300 rfl) rfl ?_
    exact ey_rs (s0 := [jI 1, jR (some 76)]) (s1 := [jI (if (jw (jd_204 (jw p0) 0 2)) = 0 then 1 else (if (jw (m 76 7)) = 0 then 1 else (if (jw (m 76 12)) = 8 then 2 else 0))), jR (some 76)]) (by rw [show ((if (jw (jd_204 (jw p0) 0 2)) = 0 then 1 else (if (jw (m 76 7)) = 0 then 1 else (if (jw (m 76 12)) = 8 then 2 else 0))) : Int) = 1 from (if_pos q62)]) (K61 (jlf (jla 0 [jR (some 76), jI p0])) rfl rfl)
  · refine ey_yeq (cd_300 rfl) rfl rfl q62 ?_
    refine ey_aload_n (cd_300 rfl) rfl ?_
    refine ey_getf_i (z := (m 76 7)) (cd_300 rfl) mt_300 rfl rfl rfl (jhm_gi hb 7) ?_
    by_cases q63 : (jw (m 76 7)) = 0
    · refine ey_yne (cd_300 rfl) rfl rfl (fun w => w q63) ?_
      refine ey_iconst (cd_300 rfl) ?_
      refine ey_goto (cd_300 rfl) rfl ?_
      exact ey_rs (s0 := [jI 1, jR (some 76)]) (s1 := [jI (if (jw (jd_204 (jw p0) 0 2)) = 0 then 1 else (if (jw (m 76 7)) = 0 then 1 else (if (jw (m 76 12)) = 8 then 2 else 0))), jR (some 76)]) (by rw [show ((if (jw (jd_204 (jw p0) 0 2)) = 0 then 1 else (if (jw (m 76 7)) = 0 then 1 else (if (jw (m 76 12)) = 8 then 2 else 0))) : Int) = 1 from ((if_neg q62).trans (if_pos q63))]) (K61 (jlf (jla 0 [jR (some 76), jI p0])) rfl rfl)
    · refine ey_zne (cd_300 rfl) rfl rfl q63 ?_
      refine ey_aload_n (cd_300 rfl) rfl ?_
      refine ey_getf_i (z := (m 76 12)) (cd_300 rfl) mt_300 rfl rfl rfl (jhm_gi hb 12) ?_
      refine ey_bipush (cd_300 rfl) (by decide) ?_
      by_cases q64 : (jw (m 76 12)) = 8
      · refine ey_nne (cd_300 rfl) rfl rfl (show jw 8 = 8 from by decide) (fun w => w q64) ?_
        refine ey_iconst (cd_300 rfl) ?_
        refine ey_goto (cd_300 rfl) rfl ?_
        exact ey_rs (s0 := [jI 2, jR (some 76)]) (s1 := [jI (if (jw (jd_204 (jw p0) 0 2)) = 0 then 1 else (if (jw (m 76 7)) = 0 then 1 else (if (jw (m 76 12)) = 8 then 2 else 0))), jR (some 76)]) (by rw [show ((if (jw (jd_204 (jw p0) 0 2)) = 0 then 1 else (if (jw (m 76 7)) = 0 then 1 else (if (jw (m 76 12)) = 8 then 2 else 0))) : Int) = 2 from ((if_neg q62).trans ((if_neg q63).trans (if_pos q64)))]) (K61 (jlf (jla 0 [jR (some 76), jI p0])) rfl rfl)
      · refine ey_cne (cd_300 rfl) rfl rfl (show jw 8 = 8 from by decide) q64 ?_
        refine ey_iconst (cd_300 rfl) ?_
        exact ey_rs (s0 := [jI 0, jR (some 76)]) (s1 := [jI (if (jw (jd_204 (jw p0) 0 2)) = 0 then 1 else (if (jw (m 76 7)) = 0 then 1 else (if (jw (m 76 12)) = 8 then 2 else 0))), jR (some 76)]) (by rw [show ((if (jw (jd_204 (jw p0) 0 2)) = 0 then 1 else (if (jw (m 76 7)) = 0 then 1 else (if (jw (m 76 12)) = 8 then 2 else 0))) : Int) = 0 from ((if_neg q62).trans ((if_neg q63).trans (if_neg q64)))]) (K61 (jlf (jla 0 [jR (some 76), jI p0])) rfl rfl)
