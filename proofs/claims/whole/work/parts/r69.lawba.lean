theorem cd_365 {pc : Nat} {i : Instr × Nat} (h : mm_lk mm_c365 pc = some i) : mm_cd 365 pc = some i := h
theorem mt_365 : mm_MT 365 = (13, 8, some .int, 7, 1, [(0, 16, 19, 13), (0, 16, 23, 15)]) := rfl
set_option maxRecDepth 100000 in
theorem ok_365 {L : Nat} {xs : Nat → Int32} {p0 : Option Nat} {p1 : Int} {p2 : Int} {p3 : Int} {p4 : Int} {p5 : Int} {p6 : Option Nat} {h : jH} {o : (Int × jH)} (e : jd_365 p0 p1 p2 p3 p4 p5 p6 h = some o) : mm_Runs (mm_xt L xs) 4 365 ([jR p0, jI p1, jI p2, jI p3, jI p4, jI p5, jR p6].map jcv) (jaH h) (.inl (some (jcv (jI o.1)), jaH o.2)) := by
  refine ey_run0 _ mt_365 (jsl_s rfl) ?_
  unfold jd_365 at e
  refine ey_aload (cd_365 rfl) rfl ?_
  refine ey_iconst (cd_365 rfl) ?_
  refine ey_aload_n (cd_365 rfl) rfl ?_
  refine ey_iload_n (cd_365 rfl) rfl ?_
  refine ey_iload_n (cd_365 rfl) rfl ?_
  refine ey_iload_n (cd_365 rfl) rfl ?_
  refine ey_iload (cd_365 rfl) rfl ?_
  refine ey_iload (cd_365 rfl) rfl ?_
  obtain ⟨a1, e2, e⟩ := jbind e
  refine ey_rs (s0 := [jI p5, jI p4, jI p3, jI p2, jI p1, jR p0, jI 0, jR p6]) (s1 := [jI p5, jI p4, jI p3, jI p2, jI p1, jR (some a1), jI 0, jR p6]) (by rw [e2]) ?_
  obtain ⟨u3, e4, e⟩ := jbind e
  rcases jtc_c e with ⟨v6, h8, e5, e⟩ | ⟨E7, h8, e5, e⟩
  rotate_left
  · by_cases q14 : E7 = 0
    · rw [if_pos q14] at e
      subst q14
      refine ey_cvH (s0 := [jI p5, jI p4, jI p3, jI p2, jI p1, jR (some a1), jI 0, jR p6]) (s1 := [jI 0, jR p6]) (cd_365 rfl) mt_365 rfl (cd_365 rfl) rfl rfl mt_140 rfl rfl rfl (jck_s e4) rfl (jsml_s rfl) (ok_140 e5) ?_
      refine ey_iconst (cd_365 rfl) ?_
      cases e
      exact ey_reti (cd_365 rfl) mt_365 rfl
    · rw [if_neg q14] at e
      by_cases q13 : E7 = 1
      · rw [if_pos q13] at e
        subst q13
        refine ey_cvH (s0 := [jI p5, jI p4, jI p3, jI p2, jI p1, jR (some a1), jI 0, jR p6]) (s1 := [jI 0, jR p6]) (cd_365 rfl) mt_365 rfl (cd_365 rfl) rfl rfl mt_140 rfl rfl rfl (jck_s e4) rfl (jsml_s rfl) (ok_140 e5) ?_
        refine ey_iconst (cd_365 rfl) ?_
        cases e
        exact ey_reti (cd_365 rfl) mt_365 rfl
      · rw [if_neg q13] at e
        cases e
  refine ey_cv (s0 := [jI p5, jI p4, jI p3, jI p2, jI p1, jR (some a1), jI 0, jR p6]) (s1 := [jI 0, jR p6]) (st' := [jI v6, jI 0, jR p6]) (cd_365 rfl) mt_365 mt_140 rfl rfl rfl (jck_s e4) rfl (jsml_s rfl) rfl (ok_140 e5) ?_
  refine ey_i2l (cd_365 rfl) ?_
  obtain ⟨a9, e10, e⟩ := jbind e
  refine ey_rs (s0 := [jJ (jw v6), jI 0, jR p6]) (s1 := [jJ (jw v6), jI 0, jR (some a9)]) (by rw [e10]) ?_
  obtain ⟨h11, e12, e⟩ := jbind e
  refine ey_last (cd_365 rfl) e12 ?_
  refine ey_goto (cd_365 rfl) rfl ?_
  refine ey_iconst (cd_365 rfl) ?_
  cases e
  exact ey_reti (cd_365 rfl) mt_365 rfl
theorem cd_366 {pc : Nat} {i : Instr × Nat} (h : mm_lk mm_c366 pc = some i) : mm_cd 366 pc = some i := h
theorem mt_366 : mm_MT 366 = (13, 10, some .int, 9, 1, [(0, 20, 23, 21), (0, 20, 27, 13)]) := rfl
set_option maxRecDepth 100000 in
theorem ok_366 {L : Nat} {xs : Nat → Int32} {p0 : Option Nat} {p1 : Int} {p2 : Int} {p3 : Int} {p4 : Int} {p5 : Int} {p6 : Int} {p7 : Int} {p8 : Option Nat} {h : jH} {o : (Int × jH)} (e : jd_366 p0 p1 p2 p3 p4 p5 p6 p7 p8 h = some o) : mm_Runs (mm_xt L xs) 3 366 ([jR p0, jI p1, jI p2, jI p3, jI p4, jI p5, jI p6, jI p7, jR p8].map jcv) (jaH h) (.inl (some (jcv (jI o.1)), jaH o.2)) := by
  refine ey_run0 _ mt_366 (jsl_s rfl) ?_
  unfold jd_366 at e
  refine ey_aload (cd_366 rfl) rfl ?_
  refine ey_iconst (cd_366 rfl) ?_
  refine ey_aload_n (cd_366 rfl) rfl ?_
  refine ey_iload_n (cd_366 rfl) rfl ?_
  refine ey_iload_n (cd_366 rfl) rfl ?_
  refine ey_iload_n (cd_366 rfl) rfl ?_
  refine ey_iload (cd_366 rfl) rfl ?_
  refine ey_iload (cd_366 rfl) rfl ?_
  refine ey_iload (cd_366 rfl) rfl ?_
  refine ey_iload (cd_366 rfl) rfl ?_
  obtain ⟨a1, e2, e⟩ := jbind e
  refine ey_rs (s0 := [jI p7, jI p6, jI p5, jI p4, jI p3, jI p2, jI p1, jR p0, jI 0, jR p8]) (s1 := [jI p7, jI p6, jI p5, jI p4, jI p3, jI p2, jI p1, jR (some a1), jI 0, jR p8]) (by rw [e2]) ?_
  obtain ⟨u3, e4, e⟩ := jbind e
  rcases jtc_c e with ⟨v6, h8, e5, e⟩ | ⟨E7, h8, e5, e⟩
  rotate_left
  · by_cases q14 : E7 = 0
    · rw [if_pos q14] at e
      subst q14
      refine ey_cvH (s0 := [jI p7, jI p6, jI p5, jI p4, jI p3, jI p2, jI p1, jR (some a1), jI 0, jR p8]) (s1 := [jI 0, jR p8]) (cd_366 rfl) mt_366 rfl (cd_366 rfl) rfl rfl mt_141 rfl rfl rfl (jck_s e4) rfl (jsml_s rfl) (ok_141 e5) ?_
      refine ey_iconst (cd_366 rfl) ?_
      cases e
      exact ey_reti (cd_366 rfl) mt_366 rfl
    · rw [if_neg q14] at e
      by_cases q13 : E7 = 2
      · rw [if_pos q13] at e
        subst q13
        refine ey_cvH (s0 := [jI p7, jI p6, jI p5, jI p4, jI p3, jI p2, jI p1, jR (some a1), jI 0, jR p8]) (s1 := [jI 0, jR p8]) (cd_366 rfl) mt_366 rfl (cd_366 rfl) rfl rfl mt_141 rfl rfl rfl (jck_s e4) rfl (jsml_s rfl) (ok_141 e5) ?_
        refine ey_iconst (cd_366 rfl) ?_
        cases e
        exact ey_reti (cd_366 rfl) mt_366 rfl
      · rw [if_neg q13] at e
        cases e
  refine ey_cv (s0 := [jI p7, jI p6, jI p5, jI p4, jI p3, jI p2, jI p1, jR (some a1), jI 0, jR p8]) (s1 := [jI 0, jR p8]) (st' := [jI v6, jI 0, jR p8]) (cd_366 rfl) mt_366 mt_141 rfl rfl rfl (jck_s e4) rfl (jsml_s rfl) rfl (ok_141 e5) ?_
  refine ey_i2l (cd_366 rfl) ?_
  obtain ⟨a9, e10, e⟩ := jbind e
  refine ey_rs (s0 := [jJ (jw v6), jI 0, jR p8]) (s1 := [jJ (jw v6), jI 0, jR (some a9)]) (by rw [e10]) ?_
  obtain ⟨h11, e12, e⟩ := jbind e
  refine ey_last (cd_366 rfl) e12 ?_
  refine ey_goto (cd_366 rfl) rfl ?_
  refine ey_iconst (cd_366 rfl) ?_
  cases e
  exact ey_reti (cd_366 rfl) mt_366 rfl
theorem cd_367 {pc : Nat} {i : Instr × Nat} (h : mm_lk mm_c367 pc = some i) : mm_cd 367 pc = some i := h
theorem mt_367 : mm_MT 367 = (13, 7, some .int, 5, 1, [(0, 9, 12, 21), (0, 9, 16, 13)]) := rfl
set_option maxRecDepth 100000 in
theorem ok_367 {L : Nat} {xs : Nat → Int32} {p0 : Option Nat} {p1 : Int} {p2 : Int} {p3 : Int} {p4 : Int} {h : jH} {o : (Int × jH)} (e : jd_367 p0 p1 p2 p3 p4 h = some o) : mm_Runs (mm_xt L xs) 3 367 ([jR p0, jI p1, jI p2, jJ p3, jI p4].map jcv) (jaH h) (.inl (some (jcv (jI o.1)), jaH o.2)) := by
  refine ey_run0 _ mt_367 (jsl_s rfl) ?_
  unfold jd_367 at e
  refine ey_aload_n (cd_367 rfl) rfl ?_
  refine ey_iload_n (cd_367 rfl) rfl ?_
  refine ey_iload_n (cd_367 rfl) rfl ?_
  refine ey_lload_n (cd_367 rfl) rfl ?_
  refine ey_iload (cd_367 rfl) rfl ?_
  obtain ⟨a1, e2, e⟩ := jbind e
  refine ey_rs (s0 := [jI p4, jJ p3, jI p2, jI p1, jR p0]) (s1 := [jI p4, jJ p3, jI p2, jI p1, jR (some a1)]) (by rw [e2]) ?_
  obtain ⟨u3, e4, e⟩ := jbind e
  rcases jtc_c e with ⟨v6, h8, e5, e⟩ | ⟨E7, h8, e5, e⟩
  rotate_left
  · by_cases q10 : E7 = 0
    · rw [if_pos q10] at e
      subst q10
      refine ey_cvH (s0 := [jI p4, jJ p3, jI p2, jI p1, jR (some a1)]) (s1 := []) (cd_367 rfl) mt_367 rfl (cd_367 rfl) rfl rfl mt_142 rfl rfl rfl (jck_s e4) rfl (jsml_s rfl) (ok_142 e5) ?_
      refine ey_iconst (cd_367 rfl) ?_
      cases e
      exact ey_reti (cd_367 rfl) mt_367 rfl
    · rw [if_neg q10] at e
      by_cases q9 : E7 = 2
      · rw [if_pos q9] at e
        subst q9
        refine ey_cvH (s0 := [jI p4, jJ p3, jI p2, jI p1, jR (some a1)]) (s1 := []) (cd_367 rfl) mt_367 rfl (cd_367 rfl) rfl rfl mt_142 rfl rfl rfl (jck_s e4) rfl (jsml_s rfl) (ok_142 e5) ?_
        refine ey_iconst (cd_367 rfl) ?_
        cases e
        exact ey_reti (cd_367 rfl) mt_367 rfl
      · rw [if_neg q9] at e
        cases e
  refine ey_cv (s0 := [jI p4, jJ p3, jI p2, jI p1, jR (some a1)]) (s1 := []) (st' := []) (cd_367 rfl) mt_367 mt_142 rfl rfl rfl (jck_s e4) rfl (jsml_s rfl) rfl (ok_142 e5) ?_
  refine ey_goto (cd_367 rfl) rfl ?_
  refine ey_iconst (cd_367 rfl) ?_
  cases e
  exact ey_reti (cd_367 rfl) mt_367 rfl
theorem cd_368 {pc : Nat} {i : Instr × Nat} (h : mm_lk mm_c368 pc = some i) : mm_cd 368 pc = some i := h
theorem mt_368 : mm_MT 368 = (13, 6, some .int, 5, 1, [(0, 12, 15, 21), (0, 12, 19, 13), (0, 12, 23, 15)]) := rfl
set_option maxRecDepth 100000 in
theorem ok_368 {L : Nat} {xs : Nat → Int32} {p0 : Option Nat} {p1 : Int} {p2 : Int} {p3 : Int} {p4 : Option Nat} {h : jH} {o : (Int × jH)} (e : jd_368 p0 p1 p2 p3 p4 h = some o) : mm_Runs (mm_xt L xs) 4 368 ([jR p0, jI p1, jI p2, jI p3, jR p4].map jcv) (jaH h) (.inl (some (jcv (jI o.1)), jaH o.2)) := by
  refine ey_run0 _ mt_368 (jsl_s rfl) ?_
  unfold jd_368 at e
  refine ey_aload (cd_368 rfl) rfl ?_
  refine ey_iconst (cd_368 rfl) ?_
  refine ey_aload_n (cd_368 rfl) rfl ?_
  refine ey_iload_n (cd_368 rfl) rfl ?_
  refine ey_iload_n (cd_368 rfl) rfl ?_
  refine ey_iload_n (cd_368 rfl) rfl ?_
  obtain ⟨a1, e2, e⟩ := jbind e
  refine ey_rs (s0 := [jI p3, jI p2, jI p1, jR p0, jI 0, jR p4]) (s1 := [jI p3, jI p2, jI p1, jR (some a1), jI 0, jR p4]) (by rw [e2]) ?_
  obtain ⟨u3, e4, e⟩ := jbind e
  rcases jtc_c e with ⟨v6, h8, e5, e⟩ | ⟨E7, h8, e5, e⟩
  rotate_left
  · by_cases q15 : E7 = 0
    · rw [if_pos q15] at e
      subst q15
      refine ey_cvH (s0 := [jI p3, jI p2, jI p1, jR (some a1), jI 0, jR p4]) (s1 := [jI 0, jR p4]) (cd_368 rfl) mt_368 rfl (cd_368 rfl) rfl rfl mt_143 rfl rfl rfl (jck_s e4) rfl (jsml_s rfl) (ok_143 e5) ?_
      refine ey_iconst (cd_368 rfl) ?_
      cases e
      exact ey_reti (cd_368 rfl) mt_368 rfl
    · rw [if_neg q15] at e
      by_cases q14 : E7 = 1
      · rw [if_pos q14] at e
        subst q14
        refine ey_cvH (s0 := [jI p3, jI p2, jI p1, jR (some a1), jI 0, jR p4]) (s1 := [jI 0, jR p4]) (cd_368 rfl) mt_368 rfl (cd_368 rfl) rfl rfl mt_143 rfl rfl rfl (jck_s e4) rfl (jsml_s rfl) (ok_143 e5) ?_
        refine ey_iconst (cd_368 rfl) ?_
        cases e
        exact ey_reti (cd_368 rfl) mt_368 rfl
      · rw [if_neg q14] at e
        by_cases q13 : E7 = 2
        · rw [if_pos q13] at e
          subst q13
          refine ey_cvH (s0 := [jI p3, jI p2, jI p1, jR (some a1), jI 0, jR p4]) (s1 := [jI 0, jR p4]) (cd_368 rfl) mt_368 rfl (cd_368 rfl) rfl rfl mt_143 rfl rfl rfl (jck_s e4) rfl (jsml_s rfl) (ok_143 e5) ?_
          refine ey_iconst (cd_368 rfl) ?_
          cases e
          exact ey_reti (cd_368 rfl) mt_368 rfl
        · rw [if_neg q13] at e
          cases e
  refine ey_cv (s0 := [jI p3, jI p2, jI p1, jR (some a1), jI 0, jR p4]) (s1 := [jI 0, jR p4]) (st' := [jI v6, jI 0, jR p4]) (cd_368 rfl) mt_368 mt_143 rfl rfl rfl (jck_s e4) rfl (jsml_s rfl) rfl (ok_143 e5) ?_
  refine ey_i2l (cd_368 rfl) ?_
  obtain ⟨a9, e10, e⟩ := jbind e
  refine ey_rs (s0 := [jJ (jw v6), jI 0, jR p4]) (s1 := [jJ (jw v6), jI 0, jR (some a9)]) (by rw [e10]) ?_
  obtain ⟨h11, e12, e⟩ := jbind e
  refine ey_last (cd_368 rfl) e12 ?_
  refine ey_goto (cd_368 rfl) rfl ?_
  refine ey_iconst (cd_368 rfl) ?_
  cases e
  exact ey_reti (cd_368 rfl) mt_368 rfl
theorem cd_369 {pc : Nat} {i : Instr × Nat} (h : mm_lk mm_c369 pc = some i) : mm_cd 369 pc = some i := h
theorem mt_369 : mm_MT 369 = (13, 8, some .int, 7, 1, [(0, 16, 19, 21), (0, 16, 23, 13)]) := rfl
set_option maxRecDepth 100000 in
theorem ok_369 {L : Nat} {xs : Nat → Int32} {p0 : Option Nat} {p1 : Int} {p2 : Int} {p3 : Int} {p4 : Int} {p5 : Int} {p6 : Option Nat} {h : jH} {o : (Int × jH)} (e : jd_369 p0 p1 p2 p3 p4 p5 p6 h = some o) : mm_Runs (mm_xt L xs) 4 369 ([jR p0, jI p1, jI p2, jI p3, jI p4, jI p5, jR p6].map jcv) (jaH h) (.inl (some (jcv (jI o.1)), jaH o.2)) := by
  refine ey_run0 _ mt_369 (jsl_s rfl) ?_
  unfold jd_369 at e
  refine ey_aload (cd_369 rfl) rfl ?_
  refine ey_iconst (cd_369 rfl) ?_
  refine ey_aload_n (cd_369 rfl) rfl ?_
  refine ey_iload_n (cd_369 rfl) rfl ?_
  refine ey_iload_n (cd_369 rfl) rfl ?_
  refine ey_iload_n (cd_369 rfl) rfl ?_
  refine ey_iload (cd_369 rfl) rfl ?_
  refine ey_iload (cd_369 rfl) rfl ?_
  obtain ⟨a1, e2, e⟩ := jbind e
  refine ey_rs (s0 := [jI p5, jI p4, jI p3, jI p2, jI p1, jR p0, jI 0, jR p6]) (s1 := [jI p5, jI p4, jI p3, jI p2, jI p1, jR (some a1), jI 0, jR p6]) (by rw [e2]) ?_
  obtain ⟨u3, e4, e⟩ := jbind e
  rcases jtc_c e with ⟨v6, h8, e5, e⟩ | ⟨E7, h8, e5, e⟩
  rotate_left
  · by_cases q14 : E7 = 0
    · rw [if_pos q14] at e
      subst q14
      refine ey_cvH (s0 := [jI p5, jI p4, jI p3, jI p2, jI p1, jR (some a1), jI 0, jR p6]) (s1 := [jI 0, jR p6]) (cd_369 rfl) mt_369 rfl (cd_369 rfl) rfl rfl mt_144 rfl rfl rfl (jck_s e4) rfl (jsml_s rfl) (ok_144 e5) ?_
      refine ey_iconst (cd_369 rfl) ?_
      cases e
      exact ey_reti (cd_369 rfl) mt_369 rfl
    · rw [if_neg q14] at e
      by_cases q13 : E7 = 2
      · rw [if_pos q13] at e
        subst q13
        refine ey_cvH (s0 := [jI p5, jI p4, jI p3, jI p2, jI p1, jR (some a1), jI 0, jR p6]) (s1 := [jI 0, jR p6]) (cd_369 rfl) mt_369 rfl (cd_369 rfl) rfl rfl mt_144 rfl rfl rfl (jck_s e4) rfl (jsml_s rfl) (ok_144 e5) ?_
        refine ey_iconst (cd_369 rfl) ?_
        cases e
        exact ey_reti (cd_369 rfl) mt_369 rfl
      · rw [if_neg q13] at e
        cases e
  refine ey_cv (s0 := [jI p5, jI p4, jI p3, jI p2, jI p1, jR (some a1), jI 0, jR p6]) (s1 := [jI 0, jR p6]) (st' := [jI v6, jI 0, jR p6]) (cd_369 rfl) mt_369 mt_144 rfl rfl rfl (jck_s e4) rfl (jsml_s rfl) rfl (ok_144 e5) ?_
  refine ey_i2l (cd_369 rfl) ?_
  obtain ⟨a9, e10, e⟩ := jbind e
  refine ey_rs (s0 := [jJ (jw v6), jI 0, jR p6]) (s1 := [jJ (jw v6), jI 0, jR (some a9)]) (by rw [e10]) ?_
  obtain ⟨h11, e12, e⟩ := jbind e
  refine ey_last (cd_369 rfl) e12 ?_
  refine ey_goto (cd_369 rfl) rfl ?_
  refine ey_iconst (cd_369 rfl) ?_
  cases e
  exact ey_reti (cd_369 rfl) mt_369 rfl
theorem cd_370 {pc : Nat} {i : Instr × Nat} (h : mm_lk mm_c370 pc = some i) : mm_cd 370 pc = some i := h
theorem mt_370 : mm_MT 370 = (13, 7, some .int, 6, 1, [(0, 14, 17, 21)]) := rfl
set_option maxRecDepth 100000 in
theorem ok_370 {L : Nat} {xs : Nat → Int32} {p0 : Option Nat} {p1 : Int} {p2 : Int} {p3 : Int} {p4 : Int} {p5 : Option Nat} {h : jH} {o : (Int × jH)} (e : jd_370 p0 p1 p2 p3 p4 p5 h = some o) : mm_Runs (mm_xt L xs) 4 370 ([jR p0, jI p1, jI p2, jI p3, jI p4, jR p5].map jcv) (jaH h) (.inl (some (jcv (jI o.1)), jaH o.2)) := by
  refine ey_run0 _ mt_370 (jsl_s rfl) ?_
  unfold jd_370 at e
  refine ey_aload (cd_370 rfl) rfl ?_
  refine ey_iconst (cd_370 rfl) ?_
  refine ey_aload_n (cd_370 rfl) rfl ?_
  refine ey_iload_n (cd_370 rfl) rfl ?_
  refine ey_iload_n (cd_370 rfl) rfl ?_
  refine ey_iload_n (cd_370 rfl) rfl ?_
  refine ey_iload (cd_370 rfl) rfl ?_
  obtain ⟨a1, e2, e⟩ := jbind e
  refine ey_rs (s0 := [jI p4, jI p3, jI p2, jI p1, jR p0, jI 0, jR p5]) (s1 := [jI p4, jI p3, jI p2, jI p1, jR (some a1), jI 0, jR p5]) (by rw [e2]) ?_
  obtain ⟨u3, e4, e⟩ := jbind e
  rcases jtc_c e with ⟨v6, h8, e5, e⟩ | ⟨E7, h8, e5, e⟩
  rotate_left
  · by_cases q13 : E7 = 2
    · rw [if_pos q13] at e
      subst q13
      refine ey_cvH (s0 := [jI p4, jI p3, jI p2, jI p1, jR (some a1), jI 0, jR p5]) (s1 := [jI 0, jR p5]) (cd_370 rfl) mt_370 rfl (cd_370 rfl) rfl rfl mt_145 rfl rfl rfl (jck_s e4) rfl (jsml_s rfl) (ok_145 e5) ?_
      refine ey_iconst (cd_370 rfl) ?_
      cases e
      exact ey_reti (cd_370 rfl) mt_370 rfl
    · rw [if_neg q13] at e
      cases e
  refine ey_cv (s0 := [jI p4, jI p3, jI p2, jI p1, jR (some a1), jI 0, jR p5]) (s1 := [jI 0, jR p5]) (st' := [jI v6, jI 0, jR p5]) (cd_370 rfl) mt_370 mt_145 rfl rfl rfl (jck_s e4) rfl (jsml_s rfl) rfl (ok_145 e5) ?_
  refine ey_i2l (cd_370 rfl) ?_
  obtain ⟨a9, e10, e⟩ := jbind e
  refine ey_rs (s0 := [jJ (jw v6), jI 0, jR p5]) (s1 := [jJ (jw v6), jI 0, jR (some a9)]) (by rw [e10]) ?_
  obtain ⟨h11, e12, e⟩ := jbind e
  refine ey_last (cd_370 rfl) e12 ?_
  refine ey_goto (cd_370 rfl) rfl ?_
  refine ey_iconst (cd_370 rfl) ?_
  cases e
  exact ey_reti (cd_370 rfl) mt_370 rfl
theorem cd_371 {pc : Nat} {i : Instr × Nat} (h : mm_lk mm_c371 pc = some i) : mm_cd 371 pc = some i := h
theorem mt_371 : mm_MT 371 = (13, 5, some .int, 4, 1, [(0, 10, 13, 21), (0, 10, 17, 13)]) := rfl
set_option maxRecDepth 100000 in
theorem ok_371 {L : Nat} {xs : Nat → Int32} {p0 : Option Nat} {p1 : Int} {p2 : Int} {p3 : Option Nat} {h : jH} {o : (Int × jH)} (e : jd_371 p0 p1 p2 p3 h = some o) : mm_Runs (mm_xt L xs) 3 371 ([jR p0, jI p1, jI p2, jR p3].map jcv) (jaH h) (.inl (some (jcv (jI o.1)), jaH o.2)) := by
  refine ey_run0 _ mt_371 (jsl_s rfl) ?_
  unfold jd_371 at e
  refine ey_aload_n (cd_371 rfl) rfl ?_
  refine ey_iconst (cd_371 rfl) ?_
  refine ey_aload_n (cd_371 rfl) rfl ?_
  refine ey_iload_n (cd_371 rfl) rfl ?_
  refine ey_iload_n (cd_371 rfl) rfl ?_
  obtain ⟨a1, e2, e⟩ := jbind e
  refine ey_rs (s0 := [jI p2, jI p1, jR p0, jI 0, jR p3]) (s1 := [jI p2, jI p1, jR (some a1), jI 0, jR p3]) (by rw [e2]) ?_
  obtain ⟨u3, e4, e⟩ := jbind e
  rcases jtc_c e with ⟨v6, h8, e5, e⟩ | ⟨E7, h8, e5, e⟩
  rotate_left
  · by_cases q14 : E7 = 0
    · rw [if_pos q14] at e
      subst q14
      refine ey_cvH (s0 := [jI p2, jI p1, jR (some a1), jI 0, jR p3]) (s1 := [jI 0, jR p3]) (cd_371 rfl) mt_371 rfl (cd_371 rfl) rfl rfl mt_146 rfl rfl rfl (jck_s e4) rfl (jsml_s rfl) (ok_146 e5) ?_
      refine ey_iconst (cd_371 rfl) ?_
      cases e
      exact ey_reti (cd_371 rfl) mt_371 rfl
    · rw [if_neg q14] at e
      by_cases q13 : E7 = 2
      · rw [if_pos q13] at e
        subst q13
        refine ey_cvH (s0 := [jI p2, jI p1, jR (some a1), jI 0, jR p3]) (s1 := [jI 0, jR p3]) (cd_371 rfl) mt_371 rfl (cd_371 rfl) rfl rfl mt_146 rfl rfl rfl (jck_s e4) rfl (jsml_s rfl) (ok_146 e5) ?_
        refine ey_iconst (cd_371 rfl) ?_
        cases e
        exact ey_reti (cd_371 rfl) mt_371 rfl
      · rw [if_neg q13] at e
        cases e
  refine ey_cv (s0 := [jI p2, jI p1, jR (some a1), jI 0, jR p3]) (s1 := [jI 0, jR p3]) (st' := [jI v6, jI 0, jR p3]) (cd_371 rfl) mt_371 mt_146 rfl rfl rfl (jck_s e4) rfl (jsml_s rfl) rfl (ok_146 e5) ?_
  refine ey_i2l (cd_371 rfl) ?_
  obtain ⟨a9, e10, e⟩ := jbind e
  refine ey_rs (s0 := [jJ (jw v6), jI 0, jR p3]) (s1 := [jJ (jw v6), jI 0, jR (some a9)]) (by rw [e10]) ?_
  obtain ⟨h11, e12, e⟩ := jbind e
  refine ey_last (cd_371 rfl) e12 ?_
  refine ey_goto (cd_371 rfl) rfl ?_
  refine ey_iconst (cd_371 rfl) ?_
  cases e
  exact ey_reti (cd_371 rfl) mt_371 rfl
theorem cd_372 {pc : Nat} {i : Instr × Nat} (h : mm_lk mm_c372 pc = some i) : mm_cd 372 pc = some i := h
theorem mt_372 : mm_MT 372 = (13, 4, some .int, 3, 1, [(0, 9, 12, 13)]) := rfl
set_option maxRecDepth 100000 in
theorem ok_372 {L : Nat} {xs : Nat → Int32} {p0 : Option Nat} {p1 : Int} {p2 : Option Nat} {h : jH} {o : (Int × jH)} (e : jd_372 p0 p1 p2 h = some o) : mm_Runs (mm_xt L xs) 2 372 ([jR p0, jI p1, jR p2].map jcv) (jaH h) (.inl (some (jcv (jI o.1)), jaH o.2)) := by
  refine ey_run0 _ mt_372 (jsl_s rfl) ?_
  unfold jd_372 at e
  refine ey_aload_n (cd_372 rfl) rfl ?_
  refine ey_iconst (cd_372 rfl) ?_
  refine ey_aload_n (cd_372 rfl) rfl ?_
  refine ey_iload_n (cd_372 rfl) rfl ?_
  obtain ⟨a1, e2, e⟩ := jbind e
  refine ey_rs (s0 := [jI p1, jR p0, jI 0, jR p2]) (s1 := [jI p1, jR (some a1), jI 0, jR p2]) (by rw [e2]) ?_
  obtain ⟨u3, e4, e⟩ := jbind e
  rcases jtc_c e with ⟨v6, h8, e5, e⟩ | ⟨E7, h8, e5, e⟩
  rotate_left
  · by_cases q13 : E7 = 0
    · rw [if_pos q13] at e
      subst q13
      refine ey_cvH (s0 := [jI p1, jR (some a1), jI 0, jR p2]) (s1 := [jI 0, jR p2]) (cd_372 rfl) mt_372 rfl (cd_372 rfl) rfl rfl mt_147 rfl rfl rfl (jck_s e4) rfl (jsml_s rfl) (ok_147 e5) ?_
      refine ey_iconst (cd_372 rfl) ?_
      cases e
      exact ey_reti (cd_372 rfl) mt_372 rfl
    · rw [if_neg q13] at e
      cases e
  refine ey_cv (s0 := [jI p1, jR (some a1), jI 0, jR p2]) (s1 := [jI 0, jR p2]) (st' := [jI v6, jI 0, jR p2]) (cd_372 rfl) mt_372 mt_147 rfl rfl rfl (jck_s e4) rfl (jsml_s rfl) rfl (ok_147 e5) ?_
  refine ey_i2l (cd_372 rfl) ?_
  obtain ⟨a9, e10, e⟩ := jbind e
  refine ey_rs (s0 := [jJ (jw v6), jI 0, jR p2]) (s1 := [jJ (jw v6), jI 0, jR (some a9)]) (by rw [e10]) ?_
  obtain ⟨h11, e12, e⟩ := jbind e
  refine ey_last (cd_372 rfl) e12 ?_
  refine ey_goto (cd_372 rfl) rfl ?_
  refine ey_iconst (cd_372 rfl) ?_
  cases e
  exact ey_reti (cd_372 rfl) mt_372 rfl
theorem cd_373 {pc : Nat} {i : Instr × Nat} (h : mm_lk mm_c373 pc = some i) : mm_cd 373 pc = some i := h
theorem mt_373 : mm_MT 373 = (13, 6, some .int, 4, 1, [(0, 11, 14, 13), (0, 11, 18, 15)]) := rfl
set_option maxRecDepth 100000 in
theorem ok_373 {L : Nat} {xs : Nat → Int32} {p0 : Option Nat} {p1 : Int} {p2 : Int} {p3 : Option Nat} {h : jH} {o : (Int × jH)} (e : jd_373 p0 p1 p2 p3 h = some o) : mm_Runs (mm_xt L xs) 2 373 ([jR p0, jJ p1, jI p2, jR p3].map jcv) (jaH h) (.inl (some (jcv (jI o.1)), jaH o.2)) := by
  refine ey_run0 _ mt_373 (jsl_s rfl) ?_
  unfold jd_373 at e
  refine ey_aload (cd_373 rfl) rfl ?_
  refine ey_iconst (cd_373 rfl) ?_
  refine ey_aload_n (cd_373 rfl) rfl ?_
  refine ey_lload_n (cd_373 rfl) rfl ?_
  refine ey_iload_n (cd_373 rfl) rfl ?_
  obtain ⟨a1, e2, e⟩ := jbind e
  refine ey_rs (s0 := [jI p2, jJ p1, jR p0, jI 0, jR p3]) (s1 := [jI p2, jJ p1, jR (some a1), jI 0, jR p3]) (by rw [e2]) ?_
  obtain ⟨u3, e4, e⟩ := jbind e
  rcases jtc_c e with ⟨v6, h8, e5, e⟩ | ⟨E7, h8, e5, e⟩
  rotate_left
  · by_cases q14 : E7 = 0
    · rw [if_pos q14] at e
      subst q14
      refine ey_cvH (s0 := [jI p2, jJ p1, jR (some a1), jI 0, jR p3]) (s1 := [jI 0, jR p3]) (cd_373 rfl) mt_373 rfl (cd_373 rfl) rfl rfl mt_148 rfl rfl rfl (jck_s e4) rfl (jsml_s rfl) (ok_148 e5) ?_
      refine ey_iconst (cd_373 rfl) ?_
      cases e
      exact ey_reti (cd_373 rfl) mt_373 rfl
    · rw [if_neg q14] at e
      by_cases q13 : E7 = 1
      · rw [if_pos q13] at e
        subst q13
        refine ey_cvH (s0 := [jI p2, jJ p1, jR (some a1), jI 0, jR p3]) (s1 := [jI 0, jR p3]) (cd_373 rfl) mt_373 rfl (cd_373 rfl) rfl rfl mt_148 rfl rfl rfl (jck_s e4) rfl (jsml_s rfl) (ok_148 e5) ?_
        refine ey_iconst (cd_373 rfl) ?_
        cases e
        exact ey_reti (cd_373 rfl) mt_373 rfl
      · rw [if_neg q13] at e
        cases e
  refine ey_cv (s0 := [jI p2, jJ p1, jR (some a1), jI 0, jR p3]) (s1 := [jI 0, jR p3]) (st' := [jI v6, jI 0, jR p3]) (cd_373 rfl) mt_373 mt_148 rfl rfl rfl (jck_s e4) rfl (jsml_s rfl) rfl (ok_148 e5) ?_
  refine ey_i2l (cd_373 rfl) ?_
  obtain ⟨a9, e10, e⟩ := jbind e
  refine ey_rs (s0 := [jJ (jw v6), jI 0, jR p3]) (s1 := [jJ (jw v6), jI 0, jR (some a9)]) (by rw [e10]) ?_
  obtain ⟨h11, e12, e⟩ := jbind e
  refine ey_last (cd_373 rfl) e12 ?_
  refine ey_goto (cd_373 rfl) rfl ?_
  refine ey_iconst (cd_373 rfl) ?_
  cases e
  exact ey_reti (cd_373 rfl) mt_373 rfl
theorem cd_374 {pc : Nat} {i : Instr × Nat} (h : mm_lk mm_c374 pc = some i) : mm_cd 374 pc = some i := h
theorem mt_374 : mm_MT 374 = (13, 5, some .int, 4, 1, [(0, 10, 13, 21)]) := rfl
set_option maxRecDepth 100000 in
theorem ok_374 {L : Nat} {xs : Nat → Int32} {p0 : Option Nat} {p1 : Int} {p2 : Int} {p3 : Option Nat} {h : jH} {o : (Int × jH)} (e : jd_374 p0 p1 p2 p3 h = some o) : mm_Runs (mm_xt L xs) 2 374 ([jR p0, jI p1, jI p2, jR p3].map jcv) (jaH h) (.inl (some (jcv (jI o.1)), jaH o.2)) := by
  refine ey_run0 _ mt_374 (jsl_s rfl) ?_
  unfold jd_374 at e
  refine ey_aload_n (cd_374 rfl) rfl ?_
  refine ey_iconst (cd_374 rfl) ?_
  refine ey_aload_n (cd_374 rfl) rfl ?_
  refine ey_iload_n (cd_374 rfl) rfl ?_
  refine ey_iload_n (cd_374 rfl) rfl ?_
  obtain ⟨a1, e2, e⟩ := jbind e
  refine ey_rs (s0 := [jI p2, jI p1, jR p0, jI 0, jR p3]) (s1 := [jI p2, jI p1, jR (some a1), jI 0, jR p3]) (by rw [e2]) ?_
  obtain ⟨u3, e4, e⟩ := jbind e
  rcases jtc_c e with ⟨v6, h8, e5, e⟩ | ⟨E7, h8, e5, e⟩
  rotate_left
  · by_cases q13 : E7 = 2
    · rw [if_pos q13] at e
      subst q13
      refine ey_cvH (s0 := [jI p2, jI p1, jR (some a1), jI 0, jR p3]) (s1 := [jI 0, jR p3]) (cd_374 rfl) mt_374 rfl (cd_374 rfl) rfl rfl mt_149 rfl rfl rfl (jck_s e4) rfl (jsml_s rfl) (ok_149 e5) ?_
      refine ey_iconst (cd_374 rfl) ?_
      cases e
      exact ey_reti (cd_374 rfl) mt_374 rfl
    · rw [if_neg q13] at e
      cases e
  refine ey_cv (s0 := [jI p2, jI p1, jR (some a1), jI 0, jR p3]) (s1 := [jI 0, jR p3]) (st' := [jI v6, jI 0, jR p3]) (cd_374 rfl) mt_374 mt_149 rfl rfl rfl (jck_s e4) rfl (jsml_s rfl) rfl (ok_149 e5) ?_
  refine ey_i2l (cd_374 rfl) ?_
  obtain ⟨a9, e10, e⟩ := jbind e
  refine ey_rs (s0 := [jJ (jw v6), jI 0, jR p3]) (s1 := [jJ (jw v6), jI 0, jR (some a9)]) (by rw [e10]) ?_
  obtain ⟨h11, e12, e⟩ := jbind e
  refine ey_last (cd_374 rfl) e12 ?_
  refine ey_goto (cd_374 rfl) rfl ?_
  refine ey_iconst (cd_374 rfl) ?_
  cases e
  exact ey_reti (cd_374 rfl) mt_374 rfl
theorem cd_375 {pc : Nat} {i : Instr × Nat} (h : mm_lk mm_c375 pc = some i) : mm_cd 375 pc = some i := h
theorem mt_375 : mm_MT 375 = (13, 5, some .int, 4, 1, [(0, 10, 13, 13)]) := rfl
set_option maxRecDepth 100000 in
theorem ok_375 {L : Nat} {xs : Nat → Int32} {p0 : Option Nat} {p1 : Int} {p2 : Int} {p3 : Option Nat} {h : jH} {o : (Int × jH)} (e : jd_375 p0 p1 p2 p3 h = some o) : mm_Runs (mm_xt L xs) 3 375 ([jR p0, jI p1, jI p2, jR p3].map jcv) (jaH h) (.inl (some (jcv (jI o.1)), jaH o.2)) := by
  refine ey_run0 _ mt_375 (jsl_s rfl) ?_
  unfold jd_375 at e
  refine ey_aload_n (cd_375 rfl) rfl ?_
  refine ey_iconst (cd_375 rfl) ?_
  refine ey_aload_n (cd_375 rfl) rfl ?_
  refine ey_iload_n (cd_375 rfl) rfl ?_
  refine ey_iload_n (cd_375 rfl) rfl ?_
  obtain ⟨a1, e2, e⟩ := jbind e
  refine ey_rs (s0 := [jI p2, jI p1, jR p0, jI 0, jR p3]) (s1 := [jI p2, jI p1, jR (some a1), jI 0, jR p3]) (by rw [e2]) ?_
  obtain ⟨u3, e4, e⟩ := jbind e
  rcases jtc_c e with ⟨v6, h8, e5, e⟩ | ⟨E7, h8, e5, e⟩
  rotate_left
  · by_cases q13 : E7 = 0
    · rw [if_pos q13] at e
      subst q13
      refine ey_cvH (s0 := [jI p2, jI p1, jR (some a1), jI 0, jR p3]) (s1 := [jI 0, jR p3]) (cd_375 rfl) mt_375 rfl (cd_375 rfl) rfl rfl mt_152 rfl rfl rfl (jck_s e4) rfl (jsml_s rfl) (ok_152 e5) ?_
      refine ey_iconst (cd_375 rfl) ?_
      cases e
      exact ey_reti (cd_375 rfl) mt_375 rfl
    · rw [if_neg q13] at e
      cases e
  refine ey_cv (s0 := [jI p2, jI p1, jR (some a1), jI 0, jR p3]) (s1 := [jI 0, jR p3]) (st' := [jI v6, jI 0, jR p3]) (cd_375 rfl) mt_375 mt_152 rfl rfl rfl (jck_s e4) rfl (jsml_s rfl) rfl (ok_152 e5) ?_
  refine ey_i2l (cd_375 rfl) ?_
  obtain ⟨a9, e10, e⟩ := jbind e
  refine ey_rs (s0 := [jJ (jw v6), jI 0, jR p3]) (s1 := [jJ (jw v6), jI 0, jR (some a9)]) (by rw [e10]) ?_
  obtain ⟨h11, e12, e⟩ := jbind e
  refine ey_last (cd_375 rfl) e12 ?_
  refine ey_goto (cd_375 rfl) rfl ?_
  refine ey_iconst (cd_375 rfl) ?_
  cases e
  exact ey_reti (cd_375 rfl) mt_375 rfl
theorem cd_376 {pc : Nat} {i : Instr × Nat} (h : mm_lk mm_c376 pc = some i) : mm_cd 376 pc = some i := h
theorem mt_376 : mm_MT 376 = (13, 4, some .int, 3, 1, [(0, 9, 12, 21), (0, 9, 15, 13), (0, 9, 18, 15)]) := rfl
set_option maxRecDepth 100000 in
theorem ok_376 {L : Nat} {xs : Nat → Int32} {p0 : Option Nat} {p1 : Int} {p2 : Option Nat} {h : jH} {o : (Int × jH)} (e : jd_376 p0 p1 p2 h = some o) : mm_Runs (mm_xt L xs) 4 376 ([jR p0, jI p1, jR p2].map jcv) (jaH h) (.inl (some (jcv (jI o.1)), jaH o.2)) := by
  refine ey_run0 _ mt_376 (jsl_s rfl) ?_
  unfold jd_376 at e
  refine ey_aload_n (cd_376 rfl) rfl ?_
  refine ey_iconst (cd_376 rfl) ?_
  refine ey_aload_n (cd_376 rfl) rfl ?_
  refine ey_iload_n (cd_376 rfl) rfl ?_
  obtain ⟨a1, e2, e⟩ := jbind e
  refine ey_rs (s0 := [jI p1, jR p0, jI 0, jR p2]) (s1 := [jI p1, jR (some a1), jI 0, jR p2]) (by rw [e2]) ?_
  obtain ⟨u3, e4, e⟩ := jbind e
  rcases jtc_c e with ⟨v6, h8, e5, e⟩ | ⟨E7, h8, e5, e⟩
  rotate_left
  · by_cases q15 : E7 = 0
    · rw [if_pos q15] at e
      subst q15
      refine ey_cvH (s0 := [jI p1, jR (some a1), jI 0, jR p2]) (s1 := [jI 0, jR p2]) (cd_376 rfl) mt_376 rfl (cd_376 rfl) rfl rfl mt_153 rfl rfl rfl (jck_s e4) rfl (jsml_s rfl) (ok_153 e5) ?_
      refine ey_iconst (cd_376 rfl) ?_
      cases e
      exact ey_reti (cd_376 rfl) mt_376 rfl
    · rw [if_neg q15] at e
      by_cases q14 : E7 = 1
      · rw [if_pos q14] at e
        subst q14
        refine ey_cvH (s0 := [jI p1, jR (some a1), jI 0, jR p2]) (s1 := [jI 0, jR p2]) (cd_376 rfl) mt_376 rfl (cd_376 rfl) rfl rfl mt_153 rfl rfl rfl (jck_s e4) rfl (jsml_s rfl) (ok_153 e5) ?_
        refine ey_iconst (cd_376 rfl) ?_
        cases e
        exact ey_reti (cd_376 rfl) mt_376 rfl
      · rw [if_neg q14] at e
        by_cases q13 : E7 = 2
        · rw [if_pos q13] at e
          subst q13
          refine ey_cvH (s0 := [jI p1, jR (some a1), jI 0, jR p2]) (s1 := [jI 0, jR p2]) (cd_376 rfl) mt_376 rfl (cd_376 rfl) rfl rfl mt_153 rfl rfl rfl (jck_s e4) rfl (jsml_s rfl) (ok_153 e5) ?_
          refine ey_iconst (cd_376 rfl) ?_
          cases e
          exact ey_reti (cd_376 rfl) mt_376 rfl
        · rw [if_neg q13] at e
          cases e
  refine ey_cv (s0 := [jI p1, jR (some a1), jI 0, jR p2]) (s1 := [jI 0, jR p2]) (st' := [jI v6, jI 0, jR p2]) (cd_376 rfl) mt_376 mt_153 rfl rfl rfl (jck_s e4) rfl (jsml_s rfl) rfl (ok_153 e5) ?_
  refine ey_i2l (cd_376 rfl) ?_
  obtain ⟨a9, e10, e⟩ := jbind e
  refine ey_rs (s0 := [jJ (jw v6), jI 0, jR p2]) (s1 := [jJ (jw v6), jI 0, jR (some a9)]) (by rw [e10]) ?_
  obtain ⟨h11, e12, e⟩ := jbind e
  refine ey_last (cd_376 rfl) e12 ?_
  refine ey_goto (cd_376 rfl) rfl ?_
  refine ey_iconst (cd_376 rfl) ?_
  cases e
  exact ey_reti (cd_376 rfl) mt_376 rfl
theorem cd_377 {pc : Nat} {i : Instr × Nat} (h : mm_lk mm_c377 pc = some i) : mm_cd 377 pc = some i := h
theorem mt_377 : mm_MT 377 = (13, 4, some .int, 3, 1, [(0, 9, 12, 13), (0, 9, 15, 15)]) := rfl
set_option maxRecDepth 100000 in
theorem ok_377 {L : Nat} {xs : Nat → Int32} {p0 : Option Nat} {p1 : Int} {p2 : Option Nat} {h : jH} {o : (Int × jH)} (e : jd_377 p0 p1 p2 h = some o) : mm_Runs (mm_xt L xs) 9 377 ([jR p0, jI p1, jR p2].map jcv) (jaH h) (.inl (some (jcv (jI o.1)), jaH o.2)) := by
  refine ey_run0 _ mt_377 (jsl_s rfl) ?_
  unfold jd_377 at e
  refine ey_aload_n (cd_377 rfl) rfl ?_
  refine ey_iconst (cd_377 rfl) ?_
  refine ey_aload_n (cd_377 rfl) rfl ?_
  refine ey_iload_n (cd_377 rfl) rfl ?_
  obtain ⟨a1, e2, e⟩ := jbind e
  refine ey_rs (s0 := [jI p1, jR p0, jI 0, jR p2]) (s1 := [jI p1, jR (some a1), jI 0, jR p2]) (by rw [e2]) ?_
  obtain ⟨u3, e4, e⟩ := jbind e
  rcases jtc_c e with ⟨v6, h8, e5, e⟩ | ⟨E7, h8, e5, e⟩
  rotate_left
  · by_cases q14 : E7 = 0
    · rw [if_pos q14] at e
      subst q14
      refine ey_cvH (s0 := [jI p1, jR (some a1), jI 0, jR p2]) (s1 := [jI 0, jR p2]) (cd_377 rfl) mt_377 rfl (cd_377 rfl) rfl rfl mt_155 rfl rfl rfl (jck_s e4) rfl (jsml_s rfl) (ok_155 e5) ?_
      refine ey_iconst (cd_377 rfl) ?_
      cases e
      exact ey_reti (cd_377 rfl) mt_377 rfl
    · rw [if_neg q14] at e
      by_cases q13 : E7 = 1
      · rw [if_pos q13] at e
        subst q13
        refine ey_cvH (s0 := [jI p1, jR (some a1), jI 0, jR p2]) (s1 := [jI 0, jR p2]) (cd_377 rfl) mt_377 rfl (cd_377 rfl) rfl rfl mt_155 rfl rfl rfl (jck_s e4) rfl (jsml_s rfl) (ok_155 e5) ?_
        refine ey_iconst (cd_377 rfl) ?_
        cases e
        exact ey_reti (cd_377 rfl) mt_377 rfl
      · rw [if_neg q13] at e
        cases e
  refine ey_cv (s0 := [jI p1, jR (some a1), jI 0, jR p2]) (s1 := [jI 0, jR p2]) (st' := [jI v6, jI 0, jR p2]) (cd_377 rfl) mt_377 mt_155 rfl rfl rfl (jck_s e4) rfl (jsml_s rfl) rfl (ok_155 e5) ?_
  refine ey_i2l (cd_377 rfl) ?_
  obtain ⟨a9, e10, e⟩ := jbind e
  refine ey_rs (s0 := [jJ (jw v6), jI 0, jR p2]) (s1 := [jJ (jw v6), jI 0, jR (some a9)]) (by rw [e10]) ?_
  obtain ⟨h11, e12, e⟩ := jbind e
  refine ey_last (cd_377 rfl) e12 ?_
  refine ey_goto (cd_377 rfl) rfl ?_
  refine ey_iconst (cd_377 rfl) ?_
  cases e
  exact ey_reti (cd_377 rfl) mt_377 rfl
theorem cd_378 {pc : Nat} {i : Instr × Nat} (h : mm_lk mm_c378 pc = some i) : mm_cd 378 pc = some i := h
theorem mt_378 : mm_MT 378 = (13, 3, some .int, 2, 1, [(0, 8, 11, 15)]) := rfl
set_option maxRecDepth 100000 in
theorem ok_378 {L : Nat} {xs : Nat → Int32} {p0 : Option Nat} {p1 : Option Nat} {h : jH} {o : (Int × jH)} (e : jd_378 p0 p1 h = some o) : mm_Runs (mm_xt L xs) 9 378 ([jR p0, jR p1].map jcv) (jaH h) (.inl (some (jcv (jI o.1)), jaH o.2)) := by
  refine ey_run0 _ mt_378 (jsl_s rfl) ?_
  unfold jd_378 at e
  refine ey_aload_n (cd_378 rfl) rfl ?_
  refine ey_iconst (cd_378 rfl) ?_
  refine ey_aload_n (cd_378 rfl) rfl ?_
  obtain ⟨a1, e2, e⟩ := jbind e
  refine ey_rs (s0 := [jR p0, jI 0, jR p1]) (s1 := [jR (some a1), jI 0, jR p1]) (by rw [e2]) ?_
  obtain ⟨u3, e4, e⟩ := jbind e
  rcases jtc_c e with ⟨v6, h8, e5, e⟩ | ⟨E7, h8, e5, e⟩
  rotate_left
  · by_cases q13 : E7 = 1
    · rw [if_pos q13] at e
      subst q13
      refine ey_cvH (s0 := [jR (some a1), jI 0, jR p1]) (s1 := [jI 0, jR p1]) (cd_378 rfl) mt_378 rfl (cd_378 rfl) rfl rfl mt_156 rfl rfl rfl (jck_s e4) rfl (jsml_s rfl) (ok_156 e5) ?_
      refine ey_iconst (cd_378 rfl) ?_
      cases e
      exact ey_reti (cd_378 rfl) mt_378 rfl
    · rw [if_neg q13] at e
      cases e
  refine ey_cv (s0 := [jR (some a1), jI 0, jR p1]) (s1 := [jI 0, jR p1]) (st' := [jI v6, jI 0, jR p1]) (cd_378 rfl) mt_378 mt_156 rfl rfl rfl (jck_s e4) rfl (jsml_s rfl) rfl (ok_156 e5) ?_
  refine ey_i2l (cd_378 rfl) ?_
  obtain ⟨a9, e10, e⟩ := jbind e
  refine ey_rs (s0 := [jJ (jw v6), jI 0, jR p1]) (s1 := [jJ (jw v6), jI 0, jR (some a9)]) (by rw [e10]) ?_
  obtain ⟨h11, e12, e⟩ := jbind e
  refine ey_last (cd_378 rfl) e12 ?_
  refine ey_goto (cd_378 rfl) rfl ?_
  refine ey_iconst (cd_378 rfl) ?_
  cases e
  exact ey_reti (cd_378 rfl) mt_378 rfl
theorem cd_379 {pc : Nat} {i : Instr × Nat} (h : mm_lk mm_c379 pc = some i) : mm_cd 379 pc = some i := h
theorem mt_379 : mm_MT 379 = (13, 4, some .int, 3, 1, [(0, 9, 12, 21)]) := rfl
set_option maxRecDepth 100000 in
theorem ok_379 {L : Nat} {xs : Nat → Int32} {p0 : Option Nat} {p1 : Int} {p2 : Option Nat} {h : jH} {o : (Int × jH)} (e : jd_379 p0 p1 p2 h = some o) : mm_Runs (mm_xt L xs) 3 379 ([jR p0, jI p1, jR p2].map jcv) (jaH h) (.inl (some (jcv (jI o.1)), jaH o.2)) := by
  refine ey_run0 _ mt_379 (jsl_s rfl) ?_
  unfold jd_379 at e
  refine ey_aload_n (cd_379 rfl) rfl ?_
  refine ey_iconst (cd_379 rfl) ?_
  refine ey_aload_n (cd_379 rfl) rfl ?_
  refine ey_iload_n (cd_379 rfl) rfl ?_
  obtain ⟨a1, e2, e⟩ := jbind e
  refine ey_rs (s0 := [jI p1, jR p0, jI 0, jR p2]) (s1 := [jI p1, jR (some a1), jI 0, jR p2]) (by rw [e2]) ?_
  obtain ⟨u3, e4, e⟩ := jbind e
  rcases jtc_c e with ⟨v6, h8, e5, e⟩ | ⟨E7, h8, e5, e⟩
  rotate_left
  · by_cases q13 : E7 = 2
    · rw [if_pos q13] at e
      subst q13
      refine ey_cvH (s0 := [jI p1, jR (some a1), jI 0, jR p2]) (s1 := [jI 0, jR p2]) (cd_379 rfl) mt_379 rfl (cd_379 rfl) rfl rfl mt_157 rfl rfl rfl (jck_s e4) rfl (jsml_s rfl) (ok_157 e5) ?_
      refine ey_iconst (cd_379 rfl) ?_
      cases e
      exact ey_reti (cd_379 rfl) mt_379 rfl
    · rw [if_neg q13] at e
      cases e
  refine ey_cv (s0 := [jI p1, jR (some a1), jI 0, jR p2]) (s1 := [jI 0, jR p2]) (st' := [jI v6, jI 0, jR p2]) (cd_379 rfl) mt_379 mt_157 rfl rfl rfl (jck_s e4) rfl (jsml_s rfl) rfl (ok_157 e5) ?_
  refine ey_i2l (cd_379 rfl) ?_
  obtain ⟨a9, e10, e⟩ := jbind e
  refine ey_rs (s0 := [jJ (jw v6), jI 0, jR p2]) (s1 := [jJ (jw v6), jI 0, jR (some a9)]) (by rw [e10]) ?_
  obtain ⟨h11, e12, e⟩ := jbind e
  refine ey_last (cd_379 rfl) e12 ?_
  refine ey_goto (cd_379 rfl) rfl ?_
  refine ey_iconst (cd_379 rfl) ?_
  cases e
  exact ey_reti (cd_379 rfl) mt_379 rfl
theorem cd_380 {pc : Nat} {i : Instr × Nat} (h : mm_lk mm_c380 pc = some i) : mm_cd 380 pc = some i := h
theorem mt_380 : mm_MT 380 = (13, 5, some .int, 4, 1, [(0, 10, 13, 21), (0, 10, 17, 13)]) := rfl
set_option maxRecDepth 100000 in
theorem ok_380 {L : Nat} {xs : Nat → Int32} {p0 : Option Nat} {p1 : Int} {p2 : Int} {p3 : Option Nat} {h : jH} {o : (Int × jH)} (e : jd_380 p0 p1 p2 p3 h = some o) : mm_Runs (mm_xt L xs) 3 380 ([jR p0, jI p1, jI p2, jR p3].map jcv) (jaH h) (.inl (some (jcv (jI o.1)), jaH o.2)) := by
  refine ey_run0 _ mt_380 (jsl_s rfl) ?_
  unfold jd_380 at e
  refine ey_aload_n (cd_380 rfl) rfl ?_
  refine ey_iconst (cd_380 rfl) ?_
  refine ey_aload_n (cd_380 rfl) rfl ?_
  refine ey_iload_n (cd_380 rfl) rfl ?_
  refine ey_iload_n (cd_380 rfl) rfl ?_
  obtain ⟨a1, e2, e⟩ := jbind e
  refine ey_rs (s0 := [jI p2, jI p1, jR p0, jI 0, jR p3]) (s1 := [jI p2, jI p1, jR (some a1), jI 0, jR p3]) (by rw [e2]) ?_
  obtain ⟨u3, e4, e⟩ := jbind e
  rcases jtc_c e with ⟨v6, h8, e5, e⟩ | ⟨E7, h8, e5, e⟩
  rotate_left
  · by_cases q14 : E7 = 0
    · rw [if_pos q14] at e
      subst q14
      refine ey_cvH (s0 := [jI p2, jI p1, jR (some a1), jI 0, jR p3]) (s1 := [jI 0, jR p3]) (cd_380 rfl) mt_380 rfl (cd_380 rfl) rfl rfl mt_158 rfl rfl rfl (jck_s e4) rfl (jsml_s rfl) (ok_158 e5) ?_
      refine ey_iconst (cd_380 rfl) ?_
      cases e
      exact ey_reti (cd_380 rfl) mt_380 rfl
    · rw [if_neg q14] at e
      by_cases q13 : E7 = 2
      · rw [if_pos q13] at e
        subst q13
        refine ey_cvH (s0 := [jI p2, jI p1, jR (some a1), jI 0, jR p3]) (s1 := [jI 0, jR p3]) (cd_380 rfl) mt_380 rfl (cd_380 rfl) rfl rfl mt_158 rfl rfl rfl (jck_s e4) rfl (jsml_s rfl) (ok_158 e5) ?_
        refine ey_iconst (cd_380 rfl) ?_
        cases e
        exact ey_reti (cd_380 rfl) mt_380 rfl
      · rw [if_neg q13] at e
        cases e
  refine ey_cv (s0 := [jI p2, jI p1, jR (some a1), jI 0, jR p3]) (s1 := [jI 0, jR p3]) (st' := [jI v6, jI 0, jR p3]) (cd_380 rfl) mt_380 mt_158 rfl rfl rfl (jck_s e4) rfl (jsml_s rfl) rfl (ok_158 e5) ?_
  refine ey_i2l (cd_380 rfl) ?_
  obtain ⟨a9, e10, e⟩ := jbind e
  refine ey_rs (s0 := [jJ (jw v6), jI 0, jR p3]) (s1 := [jJ (jw v6), jI 0, jR (some a9)]) (by rw [e10]) ?_
  obtain ⟨h11, e12, e⟩ := jbind e
  refine ey_last (cd_380 rfl) e12 ?_
  refine ey_goto (cd_380 rfl) rfl ?_
  refine ey_iconst (cd_380 rfl) ?_
  cases e
  exact ey_reti (cd_380 rfl) mt_380 rfl
theorem cd_381 {pc : Nat} {i : Instr × Nat} (h : mm_lk mm_c381 pc = some i) : mm_cd 381 pc = some i := h
theorem mt_381 : mm_MT 381 = (13, 6, some .int, 5, 1, [(0, 12, 15, 21), (0, 12, 19, 13)]) := rfl
set_option maxRecDepth 100000 in
theorem ok_381 {L : Nat} {xs : Nat → Int32} {p0 : Option Nat} {p1 : Int} {p2 : Int} {p3 : Int} {p4 : Option Nat} {h : jH} {o : (Int × jH)} (e : jd_381 p0 p1 p2 p3 p4 h = some o) : mm_Runs (mm_xt L xs) 3 381 ([jR p0, jI p1, jI p2, jI p3, jR p4].map jcv) (jaH h) (.inl (some (jcv (jI o.1)), jaH o.2)) := by
  refine ey_run0 _ mt_381 (jsl_s rfl) ?_
  unfold jd_381 at e
  refine ey_aload (cd_381 rfl) rfl ?_
  refine ey_iconst (cd_381 rfl) ?_
  refine ey_aload_n (cd_381 rfl) rfl ?_
  refine ey_iload_n (cd_381 rfl) rfl ?_
  refine ey_iload_n (cd_381 rfl) rfl ?_
  refine ey_iload_n (cd_381 rfl) rfl ?_
  obtain ⟨a1, e2, e⟩ := jbind e
  refine ey_rs (s0 := [jI p3, jI p2, jI p1, jR p0, jI 0, jR p4]) (s1 := [jI p3, jI p2, jI p1, jR (some a1), jI 0, jR p4]) (by rw [e2]) ?_
  obtain ⟨u3, e4, e⟩ := jbind e
  rcases jtc_c e with ⟨v6, h8, e5, e⟩ | ⟨E7, h8, e5, e⟩
  rotate_left
  · by_cases q14 : E7 = 0
    · rw [if_pos q14] at e
      subst q14
      refine ey_cvH (s0 := [jI p3, jI p2, jI p1, jR (some a1), jI 0, jR p4]) (s1 := [jI 0, jR p4]) (cd_381 rfl) mt_381 rfl (cd_381 rfl) rfl rfl mt_159 rfl rfl rfl (jck_s e4) rfl (jsml_s rfl) (ok_159 e5) ?_
      refine ey_iconst (cd_381 rfl) ?_
      cases e
      exact ey_reti (cd_381 rfl) mt_381 rfl
    · rw [if_neg q14] at e
      by_cases q13 : E7 = 2
      · rw [if_pos q13] at e
        subst q13
        refine ey_cvH (s0 := [jI p3, jI p2, jI p1, jR (some a1), jI 0, jR p4]) (s1 := [jI 0, jR p4]) (cd_381 rfl) mt_381 rfl (cd_381 rfl) rfl rfl mt_159 rfl rfl rfl (jck_s e4) rfl (jsml_s rfl) (ok_159 e5) ?_
        refine ey_iconst (cd_381 rfl) ?_
        cases e
        exact ey_reti (cd_381 rfl) mt_381 rfl
      · rw [if_neg q13] at e
        cases e
  refine ey_cv (s0 := [jI p3, jI p2, jI p1, jR (some a1), jI 0, jR p4]) (s1 := [jI 0, jR p4]) (st' := [jI v6, jI 0, jR p4]) (cd_381 rfl) mt_381 mt_159 rfl rfl rfl (jck_s e4) rfl (jsml_s rfl) rfl (ok_159 e5) ?_
  refine ey_i2l (cd_381 rfl) ?_
  obtain ⟨a9, e10, e⟩ := jbind e
  refine ey_rs (s0 := [jJ (jw v6), jI 0, jR p4]) (s1 := [jJ (jw v6), jI 0, jR (some a9)]) (by rw [e10]) ?_
  obtain ⟨h11, e12, e⟩ := jbind e
  refine ey_last (cd_381 rfl) e12 ?_
  refine ey_goto (cd_381 rfl) rfl ?_
  refine ey_iconst (cd_381 rfl) ?_
  cases e
  exact ey_reti (cd_381 rfl) mt_381 rfl
theorem cd_382 {pc : Nat} {i : Instr × Nat} (h : mm_lk mm_c382 pc = some i) : mm_cd 382 pc = some i := h
theorem mt_382 : mm_MT 382 = (13, 7, some .int, 6, 1, [(0, 14, 17, 21), (0, 14, 21, 13)]) := rfl
set_option maxRecDepth 100000 in
theorem ok_382 {L : Nat} {xs : Nat → Int32} {p0 : Option Nat} {p1 : Int} {p2 : Int} {p3 : Int} {p4 : Int} {p5 : Option Nat} {h : jH} {o : (Int × jH)} (e : jd_382 p0 p1 p2 p3 p4 p5 h = some o) : mm_Runs (mm_xt L xs) 4 382 ([jR p0, jI p1, jI p2, jI p3, jI p4, jR p5].map jcv) (jaH h) (.inl (some (jcv (jI o.1)), jaH o.2)) := by
  refine ey_run0 _ mt_382 (jsl_s rfl) ?_
  unfold jd_382 at e
  refine ey_aload (cd_382 rfl) rfl ?_
  refine ey_iconst (cd_382 rfl) ?_
  refine ey_aload_n (cd_382 rfl) rfl ?_
  refine ey_iload_n (cd_382 rfl) rfl ?_
  refine ey_iload_n (cd_382 rfl) rfl ?_
  refine ey_iload_n (cd_382 rfl) rfl ?_
  refine ey_iload (cd_382 rfl) rfl ?_
  obtain ⟨a1, e2, e⟩ := jbind e
  refine ey_rs (s0 := [jI p4, jI p3, jI p2, jI p1, jR p0, jI 0, jR p5]) (s1 := [jI p4, jI p3, jI p2, jI p1, jR (some a1), jI 0, jR p5]) (by rw [e2]) ?_
  obtain ⟨u3, e4, e⟩ := jbind e
  rcases jtc_c e with ⟨v6, h8, e5, e⟩ | ⟨E7, h8, e5, e⟩
  rotate_left
  · by_cases q14 : E7 = 0
    · rw [if_pos q14] at e
      subst q14
      refine ey_cvH (s0 := [jI p4, jI p3, jI p2, jI p1, jR (some a1), jI 0, jR p5]) (s1 := [jI 0, jR p5]) (cd_382 rfl) mt_382 rfl (cd_382 rfl) rfl rfl mt_160 rfl rfl rfl (jck_s e4) rfl (jsml_s rfl) (ok_160 e5) ?_
      refine ey_iconst (cd_382 rfl) ?_
      cases e
      exact ey_reti (cd_382 rfl) mt_382 rfl
    · rw [if_neg q14] at e
      by_cases q13 : E7 = 2
      · rw [if_pos q13] at e
        subst q13
        refine ey_cvH (s0 := [jI p4, jI p3, jI p2, jI p1, jR (some a1), jI 0, jR p5]) (s1 := [jI 0, jR p5]) (cd_382 rfl) mt_382 rfl (cd_382 rfl) rfl rfl mt_160 rfl rfl rfl (jck_s e4) rfl (jsml_s rfl) (ok_160 e5) ?_
        refine ey_iconst (cd_382 rfl) ?_
        cases e
        exact ey_reti (cd_382 rfl) mt_382 rfl
      · rw [if_neg q13] at e
        cases e
  refine ey_cv (s0 := [jI p4, jI p3, jI p2, jI p1, jR (some a1), jI 0, jR p5]) (s1 := [jI 0, jR p5]) (st' := [jI v6, jI 0, jR p5]) (cd_382 rfl) mt_382 mt_160 rfl rfl rfl (jck_s e4) rfl (jsml_s rfl) rfl (ok_160 e5) ?_
  refine ey_i2l (cd_382 rfl) ?_
  obtain ⟨a9, e10, e⟩ := jbind e
  refine ey_rs (s0 := [jJ (jw v6), jI 0, jR p5]) (s1 := [jJ (jw v6), jI 0, jR (some a9)]) (by rw [e10]) ?_
  obtain ⟨h11, e12, e⟩ := jbind e
  refine ey_last (cd_382 rfl) e12 ?_
  refine ey_goto (cd_382 rfl) rfl ?_
  refine ey_iconst (cd_382 rfl) ?_
  cases e
  exact ey_reti (cd_382 rfl) mt_382 rfl
theorem cd_383 {pc : Nat} {i : Instr × Nat} (h : mm_lk mm_c383 pc = some i) : mm_cd 383 pc = some i := h
theorem mt_383 : mm_MT 383 = (13, 8, some .int, 7, 1, [(0, 16, 19, 21)]) := rfl
set_option maxRecDepth 100000 in
theorem ok_383 {L : Nat} {xs : Nat → Int32} {p0 : Option Nat} {p1 : Int} {p2 : Int} {p3 : Int} {p4 : Int} {p5 : Int} {p6 : Option Nat} {h : jH} {o : (Int × jH)} (e : jd_383 p0 p1 p2 p3 p4 p5 p6 h = some o) : mm_Runs (mm_xt L xs) 4 383 ([jR p0, jI p1, jI p2, jI p3, jI p4, jI p5, jR p6].map jcv) (jaH h) (.inl (some (jcv (jI o.1)), jaH o.2)) := by
  refine ey_run0 _ mt_383 (jsl_s rfl) ?_
  unfold jd_383 at e
  refine ey_aload (cd_383 rfl) rfl ?_
  refine ey_iconst (cd_383 rfl) ?_
  refine ey_aload_n (cd_383 rfl) rfl ?_
  refine ey_iload_n (cd_383 rfl) rfl ?_
  refine ey_iload_n (cd_383 rfl) rfl ?_
  refine ey_iload_n (cd_383 rfl) rfl ?_
  refine ey_iload (cd_383 rfl) rfl ?_
  refine ey_iload (cd_383 rfl) rfl ?_
  obtain ⟨a1, e2, e⟩ := jbind e
  refine ey_rs (s0 := [jI p5, jI p4, jI p3, jI p2, jI p1, jR p0, jI 0, jR p6]) (s1 := [jI p5, jI p4, jI p3, jI p2, jI p1, jR (some a1), jI 0, jR p6]) (by rw [e2]) ?_
  obtain ⟨u3, e4, e⟩ := jbind e
  rcases jtc_c e with ⟨v6, h8, e5, e⟩ | ⟨E7, h8, e5, e⟩
  rotate_left
  · by_cases q13 : E7 = 2
    · rw [if_pos q13] at e
      subst q13
      refine ey_cvH (s0 := [jI p5, jI p4, jI p3, jI p2, jI p1, jR (some a1), jI 0, jR p6]) (s1 := [jI 0, jR p6]) (cd_383 rfl) mt_383 rfl (cd_383 rfl) rfl rfl mt_161 rfl rfl rfl (jck_s e4) rfl (jsml_s rfl) (ok_161 e5) ?_
      refine ey_iconst (cd_383 rfl) ?_
      cases e
      exact ey_reti (cd_383 rfl) mt_383 rfl
    · rw [if_neg q13] at e
      cases e
  refine ey_cv (s0 := [jI p5, jI p4, jI p3, jI p2, jI p1, jR (some a1), jI 0, jR p6]) (s1 := [jI 0, jR p6]) (st' := [jI v6, jI 0, jR p6]) (cd_383 rfl) mt_383 mt_161 rfl rfl rfl (jck_s e4) rfl (jsml_s rfl) rfl (ok_161 e5) ?_
  refine ey_i2l (cd_383 rfl) ?_
  obtain ⟨a9, e10, e⟩ := jbind e
  refine ey_rs (s0 := [jJ (jw v6), jI 0, jR p6]) (s1 := [jJ (jw v6), jI 0, jR (some a9)]) (by rw [e10]) ?_
  obtain ⟨h11, e12, e⟩ := jbind e
  refine ey_last (cd_383 rfl) e12 ?_
  refine ey_goto (cd_383 rfl) rfl ?_
  refine ey_iconst (cd_383 rfl) ?_
  cases e
  exact ey_reti (cd_383 rfl) mt_383 rfl
theorem cd_384 {pc : Nat} {i : Instr × Nat} (h : mm_lk mm_c384 pc = some i) : mm_cd 384 pc = some i := h
theorem mt_384 : mm_MT 384 = (13, 8, some .int, 7, 1, [(0, 23, 26, 21)]) := rfl
set_option maxRecDepth 100000 in
theorem ok_384 {L : Nat} {xs : Nat → Int32} {p0 : Option Nat} {p1 : Int} {p2 : Int} {p3 : Int} {p4 : Int} {p5 : Int} {p6 : Option Nat} {h : jH} {o : (Int × jH)} (e : jd_384 p0 p1 p2 p3 p4 p5 p6 h = some o) : mm_Runs (mm_xt L xs) 4 384 ([jR p0, jI p1, jI p2, jI p3, jI p4, jI p5, jR p6].map jcv) (jaH h) (.inl (some (jcv (jI o.1)), jaH o.2)) := by
  refine ey_run0 _ mt_384 (jsl_s rfl) ?_
  unfold jd_384 at e
  refine ey_aload (cd_384 rfl) rfl ?_
  refine ey_iconst (cd_384 rfl) ?_
  refine ey_aload_n (cd_384 rfl) rfl ?_
  refine ey_iload_n (cd_384 rfl) rfl ?_
  refine ey_iload_n (cd_384 rfl) rfl ?_
  refine ey_iload_n (cd_384 rfl) rfl ?_
  refine ey_iload (cd_384 rfl) rfl ?_
  refine ey_iload (cd_384 rfl) rfl ?_
  obtain ⟨a1, e2, e⟩ := jbind e
  refine ey_rs (s0 := [jI p5, jI p4, jI p3, jI p2, jI p1, jR p0, jI 0, jR p6]) (s1 := [jI p5, jI p4, jI p3, jI p2, jI p1, jR (some a1), jI 0, jR p6]) (by rw [e2]) ?_
  obtain ⟨u3, e4, e⟩ := jbind e
  rcases jtc_c e with ⟨v6, h8, e5, e⟩ | ⟨E7, h8, e5, e⟩
  rotate_left
  · by_cases q15 : E7 = 2
    · rw [if_pos q15] at e
      subst q15
      refine ey_cvH (s0 := [jI p5, jI p4, jI p3, jI p2, jI p1, jR (some a1), jI 0, jR p6]) (s1 := [jI 0, jR p6]) (cd_384 rfl) mt_384 rfl (cd_384 rfl) rfl rfl mt_162 rfl rfl rfl (jck_s e4) rfl (jsml_s rfl) (ok_162 e5) ?_
      refine ey_iconst (cd_384 rfl) ?_
      cases e
      exact ey_reti (cd_384 rfl) mt_384 rfl
    · rw [if_neg q15] at e
      cases e
  refine ey_cv (s0 := [jI p5, jI p4, jI p3, jI p2, jI p1, jR (some a1), jI 0, jR p6]) (s1 := [jI 0, jR p6]) (st' := [jI v6, jI 0, jR p6]) (cd_384 rfl) mt_384 mt_162 rfl rfl rfl (jck_s e4) rfl (jsml_s rfl) rfl (ok_162 e5) ?_
  have K13 : ∀ lv : jL, ey (mm_xt L xs) 3 384 22 lv [jJ (if (jw v6) = 0 then 0 else 1), jI 0, jR p6] h8 (.inl (some (jcv (jI o.1)), jaH o.2)) := by
    intro lv 
    obtain ⟨a9, e10, e⟩ := jbind e
    refine ey_rs (s0 := [jJ (if (jw v6) = 0 then 0 else 1), jI 0, jR p6]) (s1 := [jJ (if (jw v6) = 0 then 0 else 1), jI 0, jR (some a9)]) (by rw [e10]) ?_
    obtain ⟨h11, e12, e⟩ := jbind e
    refine ey_last (cd_384 rfl) e12 ?_
    refine ey_goto (cd_384 rfl) rfl ?_
    refine ey_iconst (cd_384 rfl) ?_
    cases e
    exact ey_reti (cd_384 rfl) mt_384 rfl
  by_cases q14 : (jw v6) = 0
  · refine ey_zeq (cd_384 rfl) rfl rfl q14 ?_
    refine ey_lconst0 (cd_384 rfl) ?_
    exact ey_rs (s0 := [jJ 0, jI 0, jR p6]) (s1 := [jJ (if (jw v6) = 0 then 0 else 1), jI 0, jR p6]) (by rw [show ((if (jw v6) = 0 then 0 else 1) : Int) = 0 from (if_pos q14)]) (K13 (jlf (jla 0 [jR p0, jI p1, jI p2, jI p3, jI p4, jI p5, jR p6])) )
  · refine ey_yeq (cd_384 rfl) rfl rfl q14 ?_
    refine ey_lconst1 (cd_384 rfl) ?_
    refine ey_goto (cd_384 rfl) rfl ?_
    exact ey_rs (s0 := [jJ 1, jI 0, jR p6]) (s1 := [jJ (if (jw v6) = 0 then 0 else 1), jI 0, jR p6]) (by rw [show ((if (jw v6) = 0 then 0 else 1) : Int) = 1 from (if_neg q14)]) (K13 (jlf (jla 0 [jR p0, jI p1, jI p2, jI p3, jI p4, jI p5, jR p6])) )
theorem cd_385 {pc : Nat} {i : Instr × Nat} (h : mm_lk mm_c385 pc = some i) : mm_cd 385 pc = some i := h
theorem mt_385 : mm_MT 385 = (13, 5, some .int, 4, 1, [(0, 10, 13, 21), (0, 10, 17, 15)]) := rfl
set_option maxRecDepth 100000 in
theorem ok_385 {L : Nat} {xs : Nat → Int32} {p0 : Option Nat} {p1 : Int} {p2 : Int} {p3 : Option Nat} {h : jH} {o : (Int × jH)} (e : jd_385 p0 p1 p2 p3 h = some o) : mm_Runs (mm_xt L xs) 4 385 ([jR p0, jI p1, jI p2, jR p3].map jcv) (jaH h) (.inl (some (jcv (jI o.1)), jaH o.2)) := by
  refine ey_run0 _ mt_385 (jsl_s rfl) ?_
  unfold jd_385 at e
  refine ey_aload_n (cd_385 rfl) rfl ?_
  refine ey_iconst (cd_385 rfl) ?_
  refine ey_aload_n (cd_385 rfl) rfl ?_
  refine ey_iload_n (cd_385 rfl) rfl ?_
  refine ey_iload_n (cd_385 rfl) rfl ?_
  obtain ⟨a1, e2, e⟩ := jbind e
  refine ey_rs (s0 := [jI p2, jI p1, jR p0, jI 0, jR p3]) (s1 := [jI p2, jI p1, jR (some a1), jI 0, jR p3]) (by rw [e2]) ?_
  obtain ⟨u3, e4, e⟩ := jbind e
  rcases jtc_c e with ⟨v6, h8, e5, e⟩ | ⟨E7, h8, e5, e⟩
  rotate_left
  · by_cases q14 : E7 = 1
    · rw [if_pos q14] at e
      subst q14
      refine ey_cvH (s0 := [jI p2, jI p1, jR (some a1), jI 0, jR p3]) (s1 := [jI 0, jR p3]) (cd_385 rfl) mt_385 rfl (cd_385 rfl) rfl rfl mt_163 rfl rfl rfl (jck_s e4) rfl (jsml_s rfl) (ok_163 e5) ?_
      refine ey_iconst (cd_385 rfl) ?_
      cases e
      exact ey_reti (cd_385 rfl) mt_385 rfl
    · rw [if_neg q14] at e
      by_cases q13 : E7 = 2
      · rw [if_pos q13] at e
        subst q13
        refine ey_cvH (s0 := [jI p2, jI p1, jR (some a1), jI 0, jR p3]) (s1 := [jI 0, jR p3]) (cd_385 rfl) mt_385 rfl (cd_385 rfl) rfl rfl mt_163 rfl rfl rfl (jck_s e4) rfl (jsml_s rfl) (ok_163 e5) ?_
        refine ey_iconst (cd_385 rfl) ?_
        cases e
        exact ey_reti (cd_385 rfl) mt_385 rfl
      · rw [if_neg q13] at e
        cases e
  refine ey_cv (s0 := [jI p2, jI p1, jR (some a1), jI 0, jR p3]) (s1 := [jI 0, jR p3]) (st' := [jI v6, jI 0, jR p3]) (cd_385 rfl) mt_385 mt_163 rfl rfl rfl (jck_s e4) rfl (jsml_s rfl) rfl (ok_163 e5) ?_
  refine ey_i2l (cd_385 rfl) ?_
  obtain ⟨a9, e10, e⟩ := jbind e
  refine ey_rs (s0 := [jJ (jw v6), jI 0, jR p3]) (s1 := [jJ (jw v6), jI 0, jR (some a9)]) (by rw [e10]) ?_
  obtain ⟨h11, e12, e⟩ := jbind e
  refine ey_last (cd_385 rfl) e12 ?_
  refine ey_goto (cd_385 rfl) rfl ?_
  refine ey_iconst (cd_385 rfl) ?_
  cases e
  exact ey_reti (cd_385 rfl) mt_385 rfl
theorem cd_386 {pc : Nat} {i : Instr × Nat} (h : mm_lk mm_c386 pc = some i) : mm_cd 386 pc = some i := h
theorem mt_386 : mm_MT 386 = (13, 7, some .int, 6, 1, [(0, 14, 17, 21), (0, 14, 21, 13)]) := rfl
set_option maxRecDepth 100000 in
theorem ok_386 {L : Nat} {xs : Nat → Int32} {p0 : Option Nat} {p1 : Int} {p2 : Int} {p3 : Int} {p4 : Int} {p5 : Option Nat} {h : jH} {o : (Int × jH)} (e : jd_386 p0 p1 p2 p3 p4 p5 h = some o) : mm_Runs (mm_xt L xs) 3 386 ([jR p0, jI p1, jI p2, jI p3, jI p4, jR p5].map jcv) (jaH h) (.inl (some (jcv (jI o.1)), jaH o.2)) := by
  refine ey_run0 _ mt_386 (jsl_s rfl) ?_
  unfold jd_386 at e
  refine ey_aload (cd_386 rfl) rfl ?_
  refine ey_iconst (cd_386 rfl) ?_
  refine ey_aload_n (cd_386 rfl) rfl ?_
  refine ey_iload_n (cd_386 rfl) rfl ?_
  refine ey_iload_n (cd_386 rfl) rfl ?_
  refine ey_iload_n (cd_386 rfl) rfl ?_
  refine ey_iload (cd_386 rfl) rfl ?_
  obtain ⟨a1, e2, e⟩ := jbind e
  refine ey_rs (s0 := [jI p4, jI p3, jI p2, jI p1, jR p0, jI 0, jR p5]) (s1 := [jI p4, jI p3, jI p2, jI p1, jR (some a1), jI 0, jR p5]) (by rw [e2]) ?_
  obtain ⟨u3, e4, e⟩ := jbind e
  rcases jtc_c e with ⟨v6, h8, e5, e⟩ | ⟨E7, h8, e5, e⟩
  rotate_left
  · by_cases q14 : E7 = 0
    · rw [if_pos q14] at e
      subst q14
      refine ey_cvH (s0 := [jI p4, jI p3, jI p2, jI p1, jR (some a1), jI 0, jR p5]) (s1 := [jI 0, jR p5]) (cd_386 rfl) mt_386 rfl (cd_386 rfl) rfl rfl mt_164 rfl rfl rfl (jck_s e4) rfl (jsml_s rfl) (ok_164 e5) ?_
      refine ey_iconst (cd_386 rfl) ?_
      cases e
      exact ey_reti (cd_386 rfl) mt_386 rfl
    · rw [if_neg q14] at e
      by_cases q13 : E7 = 2
      · rw [if_pos q13] at e
        subst q13
        refine ey_cvH (s0 := [jI p4, jI p3, jI p2, jI p1, jR (some a1), jI 0, jR p5]) (s1 := [jI 0, jR p5]) (cd_386 rfl) mt_386 rfl (cd_386 rfl) rfl rfl mt_164 rfl rfl rfl (jck_s e4) rfl (jsml_s rfl) (ok_164 e5) ?_
        refine ey_iconst (cd_386 rfl) ?_
        cases e
        exact ey_reti (cd_386 rfl) mt_386 rfl
      · rw [if_neg q13] at e
        cases e
  refine ey_cv (s0 := [jI p4, jI p3, jI p2, jI p1, jR (some a1), jI 0, jR p5]) (s1 := [jI 0, jR p5]) (st' := [jI v6, jI 0, jR p5]) (cd_386 rfl) mt_386 mt_164 rfl rfl rfl (jck_s e4) rfl (jsml_s rfl) rfl (ok_164 e5) ?_
  refine ey_i2l (cd_386 rfl) ?_
  obtain ⟨a9, e10, e⟩ := jbind e
  refine ey_rs (s0 := [jJ (jw v6), jI 0, jR p5]) (s1 := [jJ (jw v6), jI 0, jR (some a9)]) (by rw [e10]) ?_
  obtain ⟨h11, e12, e⟩ := jbind e
  refine ey_last (cd_386 rfl) e12 ?_
  refine ey_goto (cd_386 rfl) rfl ?_
  refine ey_iconst (cd_386 rfl) ?_
  cases e
  exact ey_reti (cd_386 rfl) mt_386 rfl
theorem cd_387 {pc : Nat} {i : Instr × Nat} (h : mm_lk mm_c387 pc = some i) : mm_cd 387 pc = some i := h
theorem mt_387 : mm_MT 387 = (13, 6, some .int, 5, 1, [(0, 12, 15, 21), (0, 12, 19, 13), (0, 12, 23, 15)]) := rfl
set_option maxRecDepth 100000 in
theorem ok_387 {L : Nat} {xs : Nat → Int32} {p0 : Option Nat} {p1 : Int} {p2 : Int} {p3 : Int} {p4 : Option Nat} {h : jH} {o : (Int × jH)} (e : jd_387 p0 p1 p2 p3 p4 h = some o) : mm_Runs (mm_xt L xs) 3 387 ([jR p0, jI p1, jI p2, jI p3, jR p4].map jcv) (jaH h) (.inl (some (jcv (jI o.1)), jaH o.2)) := by
  refine ey_run0 _ mt_387 (jsl_s rfl) ?_
  unfold jd_387 at e
  refine ey_aload (cd_387 rfl) rfl ?_
  refine ey_iconst (cd_387 rfl) ?_
  refine ey_aload_n (cd_387 rfl) rfl ?_
  refine ey_iload_n (cd_387 rfl) rfl ?_
  refine ey_iload_n (cd_387 rfl) rfl ?_
  refine ey_iload_n (cd_387 rfl) rfl ?_
  obtain ⟨a1, e2, e⟩ := jbind e
  refine ey_rs (s0 := [jI p3, jI p2, jI p1, jR p0, jI 0, jR p4]) (s1 := [jI p3, jI p2, jI p1, jR (some a1), jI 0, jR p4]) (by rw [e2]) ?_
  obtain ⟨u3, e4, e⟩ := jbind e
  rcases jtc_c e with ⟨v6, h8, e5, e⟩ | ⟨E7, h8, e5, e⟩
  rotate_left
  · by_cases q15 : E7 = 0
    · rw [if_pos q15] at e
      subst q15
      refine ey_cvH (s0 := [jI p3, jI p2, jI p1, jR (some a1), jI 0, jR p4]) (s1 := [jI 0, jR p4]) (cd_387 rfl) mt_387 rfl (cd_387 rfl) rfl rfl mt_165 rfl rfl rfl (jck_s e4) rfl (jsml_s rfl) (ok_165 e5) ?_
      refine ey_iconst (cd_387 rfl) ?_
      cases e
      exact ey_reti (cd_387 rfl) mt_387 rfl
    · rw [if_neg q15] at e
      by_cases q14 : E7 = 1
      · rw [if_pos q14] at e
        subst q14
        refine ey_cvH (s0 := [jI p3, jI p2, jI p1, jR (some a1), jI 0, jR p4]) (s1 := [jI 0, jR p4]) (cd_387 rfl) mt_387 rfl (cd_387 rfl) rfl rfl mt_165 rfl rfl rfl (jck_s e4) rfl (jsml_s rfl) (ok_165 e5) ?_
        refine ey_iconst (cd_387 rfl) ?_
        cases e
        exact ey_reti (cd_387 rfl) mt_387 rfl
      · rw [if_neg q14] at e
        by_cases q13 : E7 = 2
        · rw [if_pos q13] at e
          subst q13
          refine ey_cvH (s0 := [jI p3, jI p2, jI p1, jR (some a1), jI 0, jR p4]) (s1 := [jI 0, jR p4]) (cd_387 rfl) mt_387 rfl (cd_387 rfl) rfl rfl mt_165 rfl rfl rfl (jck_s e4) rfl (jsml_s rfl) (ok_165 e5) ?_
          refine ey_iconst (cd_387 rfl) ?_
          cases e
          exact ey_reti (cd_387 rfl) mt_387 rfl
        · rw [if_neg q13] at e
          cases e
  refine ey_cv (s0 := [jI p3, jI p2, jI p1, jR (some a1), jI 0, jR p4]) (s1 := [jI 0, jR p4]) (st' := [jI v6, jI 0, jR p4]) (cd_387 rfl) mt_387 mt_165 rfl rfl rfl (jck_s e4) rfl (jsml_s rfl) rfl (ok_165 e5) ?_
  refine ey_i2l (cd_387 rfl) ?_
  obtain ⟨a9, e10, e⟩ := jbind e
  refine ey_rs (s0 := [jJ (jw v6), jI 0, jR p4]) (s1 := [jJ (jw v6), jI 0, jR (some a9)]) (by rw [e10]) ?_
  obtain ⟨h11, e12, e⟩ := jbind e
  refine ey_last (cd_387 rfl) e12 ?_
  refine ey_goto (cd_387 rfl) rfl ?_
  refine ey_iconst (cd_387 rfl) ?_
  cases e
  exact ey_reti (cd_387 rfl) mt_387 rfl
theorem cd_388 {pc : Nat} {i : Instr × Nat} (h : mm_lk mm_c388 pc = some i) : mm_cd 388 pc = some i := h
theorem mt_388 : mm_MT 388 = (13, 3, some .int, 2, 1, [(0, 8, 11, 15)]) := rfl
set_option maxRecDepth 100000 in
theorem ok_388 {L : Nat} {xs : Nat → Int32} {p0 : Option Nat} {p1 : Option Nat} {h : jH} {o : (Int × jH)} (e : jd_388 p0 p1 h = some o) : mm_Runs (mm_xt L xs) 9 388 ([jR p0, jR p1].map jcv) (jaH h) (.inl (some (jcv (jI o.1)), jaH o.2)) := by
  refine ey_run0 _ mt_388 (jsl_s rfl) ?_
  unfold jd_388 at e
  refine ey_aload_n (cd_388 rfl) rfl ?_
  refine ey_iconst (cd_388 rfl) ?_
  refine ey_aload_n (cd_388 rfl) rfl ?_
  obtain ⟨a1, e2, e⟩ := jbind e
  refine ey_rs (s0 := [jR p0, jI 0, jR p1]) (s1 := [jR (some a1), jI 0, jR p1]) (by rw [e2]) ?_
  obtain ⟨u3, e4, e⟩ := jbind e
  rcases jtc_c e with ⟨v6, h8, e5, e⟩ | ⟨E7, h8, e5, e⟩
  rotate_left
  · by_cases q13 : E7 = 1
    · rw [if_pos q13] at e
      subst q13
      refine ey_cvH (s0 := [jR (some a1), jI 0, jR p1]) (s1 := [jI 0, jR p1]) (cd_388 rfl) mt_388 rfl (cd_388 rfl) rfl rfl mt_166 rfl rfl rfl (jck_s e4) rfl (jsml_s rfl) (ok_166 e5) ?_
      refine ey_iconst (cd_388 rfl) ?_
      cases e
      exact ey_reti (cd_388 rfl) mt_388 rfl
    · rw [if_neg q13] at e
      cases e
  refine ey_cv (s0 := [jR (some a1), jI 0, jR p1]) (s1 := [jI 0, jR p1]) (st' := [jI v6, jI 0, jR p1]) (cd_388 rfl) mt_388 mt_166 rfl rfl rfl (jck_s e4) rfl (jsml_s rfl) rfl (ok_166 e5) ?_
  refine ey_i2l (cd_388 rfl) ?_
  obtain ⟨a9, e10, e⟩ := jbind e
  refine ey_rs (s0 := [jJ (jw v6), jI 0, jR p1]) (s1 := [jJ (jw v6), jI 0, jR (some a9)]) (by rw [e10]) ?_
  obtain ⟨h11, e12, e⟩ := jbind e
  refine ey_last (cd_388 rfl) e12 ?_
  refine ey_goto (cd_388 rfl) rfl ?_
  refine ey_iconst (cd_388 rfl) ?_
  cases e
  exact ey_reti (cd_388 rfl) mt_388 rfl
theorem cd_389 {pc : Nat} {i : Instr × Nat} (h : mm_lk mm_c389 pc = some i) : mm_cd 389 pc = some i := h
theorem mt_389 : mm_MT 389 = (13, 5, some .int, 4, 1, [(0, 17, 20, 21)]) := rfl
set_option maxRecDepth 100000 in
theorem ok_389 {L : Nat} {xs : Nat → Int32} {p0 : Option Nat} {p1 : Int} {p2 : Int} {p3 : Option Nat} {h : jH} {o : (Int × jH)} (e : jd_389 p0 p1 p2 p3 h = some o) : mm_Runs (mm_xt L xs) 3 389 ([jR p0, jI p1, jI p2, jR p3].map jcv) (jaH h) (.inl (some (jcv (jI o.1)), jaH o.2)) := by
  refine ey_run0 _ mt_389 (jsl_s rfl) ?_
  unfold jd_389 at e
  refine ey_aload_n (cd_389 rfl) rfl ?_
  refine ey_iconst (cd_389 rfl) ?_
  refine ey_aload_n (cd_389 rfl) rfl ?_
  refine ey_iload_n (cd_389 rfl) rfl ?_
  refine ey_iload_n (cd_389 rfl) rfl ?_
  obtain ⟨a1, e2, e⟩ := jbind e
  refine ey_rs (s0 := [jI p2, jI p1, jR p0, jI 0, jR p3]) (s1 := [jI p2, jI p1, jR (some a1), jI 0, jR p3]) (by rw [e2]) ?_
  obtain ⟨u3, e4, e⟩ := jbind e
  rcases jtc_c e with ⟨v6, h8, e5, e⟩ | ⟨E7, h8, e5, e⟩
  rotate_left
  · by_cases q15 : E7 = 2
    · rw [if_pos q15] at e
      subst q15
      refine ey_cvH (s0 := [jI p2, jI p1, jR (some a1), jI 0, jR p3]) (s1 := [jI 0, jR p3]) (cd_389 rfl) mt_389 rfl (cd_389 rfl) rfl rfl mt_167 rfl rfl rfl (jck_s e4) rfl (jsml_s rfl) (ok_167 e5) ?_
      refine ey_iconst (cd_389 rfl) ?_
      cases e
      exact ey_reti (cd_389 rfl) mt_389 rfl
    · rw [if_neg q15] at e
      cases e
  refine ey_cv (s0 := [jI p2, jI p1, jR (some a1), jI 0, jR p3]) (s1 := [jI 0, jR p3]) (st' := [jI v6, jI 0, jR p3]) (cd_389 rfl) mt_389 mt_167 rfl rfl rfl (jck_s e4) rfl (jsml_s rfl) rfl (ok_167 e5) ?_
  have K13 : ∀ lv : jL, ey (mm_xt L xs) 2 389 16 lv [jJ (if (jw v6) = 0 then 0 else 1), jI 0, jR p3] h8 (.inl (some (jcv (jI o.1)), jaH o.2)) := by
    intro lv 
    obtain ⟨a9, e10, e⟩ := jbind e
    refine ey_rs (s0 := [jJ (if (jw v6) = 0 then 0 else 1), jI 0, jR p3]) (s1 := [jJ (if (jw v6) = 0 then 0 else 1), jI 0, jR (some a9)]) (by rw [e10]) ?_
    obtain ⟨h11, e12, e⟩ := jbind e
    refine ey_last (cd_389 rfl) e12 ?_
    refine ey_goto (cd_389 rfl) rfl ?_
    refine ey_iconst (cd_389 rfl) ?_
    cases e
    exact ey_reti (cd_389 rfl) mt_389 rfl
  by_cases q14 : (jw v6) = 0
  · refine ey_zeq (cd_389 rfl) rfl rfl q14 ?_
    refine ey_lconst0 (cd_389 rfl) ?_
    exact ey_rs (s0 := [jJ 0, jI 0, jR p3]) (s1 := [jJ (if (jw v6) = 0 then 0 else 1), jI 0, jR p3]) (by rw [show ((if (jw v6) = 0 then 0 else 1) : Int) = 0 from (if_pos q14)]) (K13 (jlf (jla 0 [jR p0, jI p1, jI p2, jR p3])) )
  · refine ey_yeq (cd_389 rfl) rfl rfl q14 ?_
    refine ey_lconst1 (cd_389 rfl) ?_
    refine ey_goto (cd_389 rfl) rfl ?_
    exact ey_rs (s0 := [jJ 1, jI 0, jR p3]) (s1 := [jJ (if (jw v6) = 0 then 0 else 1), jI 0, jR p3]) (by rw [show ((if (jw v6) = 0 then 0 else 1) : Int) = 1 from (if_neg q14)]) (K13 (jlf (jla 0 [jR p0, jI p1, jI p2, jR p3])) )
theorem cd_390 {pc : Nat} {i : Instr × Nat} (h : mm_lk mm_c390 pc = some i) : mm_cd 390 pc = some i := h
theorem mt_390 : mm_MT 390 = (13, 3, some .int, 2, 1, [(0, 8, 11, 15)]) := rfl
set_option maxRecDepth 100000 in
theorem ok_390 {L : Nat} {xs : Nat → Int32} {p0 : Option Nat} {p1 : Option Nat} {h : jH} {o : (Int × jH)} (e : jd_390 p0 p1 h = some o) : mm_Runs (mm_xt L xs) 72 390 ([jR p0, jR p1].map jcv) (jaH h) (.inl (some (jcv (jI o.1)), jaH o.2)) := by
  refine ey_run0 _ mt_390 (jsl_s rfl) ?_
  unfold jd_390 at e
  refine ey_aload_n (cd_390 rfl) rfl ?_
  refine ey_iconst (cd_390 rfl) ?_
  refine ey_aload_n (cd_390 rfl) rfl ?_
  obtain ⟨a1, e2, e⟩ := jbind e
  refine ey_rs (s0 := [jR p0, jI 0, jR p1]) (s1 := [jR (some a1), jI 0, jR p1]) (by rw [e2]) ?_
  obtain ⟨u3, e4, e⟩ := jbind e
  rcases jtc_c e with ⟨v6, h8, e5, e⟩ | ⟨E7, h8, e5, e⟩
  rotate_left
  · by_cases q13 : E7 = 1
    · rw [if_pos q13] at e
      subst q13
      refine ey_cvH (s0 := [jR (some a1), jI 0, jR p1]) (s1 := [jI 0, jR p1]) (cd_390 rfl) mt_390 rfl (cd_390 rfl) rfl rfl mt_169 rfl rfl rfl (jck_s e4) rfl (jsml_s rfl) (ok_169 e5) ?_
      refine ey_iconst (cd_390 rfl) ?_
      cases e
      exact ey_reti (cd_390 rfl) mt_390 rfl
    · rw [if_neg q13] at e
      cases e
  refine ey_cv (s0 := [jR (some a1), jI 0, jR p1]) (s1 := [jI 0, jR p1]) (st' := [jI v6, jI 0, jR p1]) (cd_390 rfl) mt_390 mt_169 rfl rfl rfl (jck_s e4) rfl (jsml_s rfl) rfl (ok_169 e5) ?_
  refine ey_i2l (cd_390 rfl) ?_
  obtain ⟨a9, e10, e⟩ := jbind e
  refine ey_rs (s0 := [jJ (jw v6), jI 0, jR p1]) (s1 := [jJ (jw v6), jI 0, jR (some a9)]) (by rw [e10]) ?_
  obtain ⟨h11, e12, e⟩ := jbind e
  refine ey_last (cd_390 rfl) e12 ?_
  refine ey_goto (cd_390 rfl) rfl ?_
  refine ey_iconst (cd_390 rfl) ?_
  cases e
  exact ey_reti (cd_390 rfl) mt_390 rfl
theorem cd_391 {pc : Nat} {i : Instr × Nat} (h : mm_lk mm_c391 pc = some i) : mm_cd 391 pc = some i := h
theorem mt_391 : mm_MT 391 = (13, 6, some .int, 5, 1, [(0, 12, 15, 21), (0, 12, 19, 15)]) := rfl
set_option maxRecDepth 100000 in
theorem ok_391 {L : Nat} {xs : Nat → Int32} {p0 : Option Nat} {p1 : Int} {p2 : Int} {p3 : Int} {p4 : Option Nat} {h : jH} {o : (Int × jH)} (e : jd_391 p0 p1 p2 p3 p4 h = some o) : mm_Runs (mm_xt L xs) 5 391 ([jR p0, jI p1, jI p2, jI p3, jR p4].map jcv) (jaH h) (.inl (some (jcv (jI o.1)), jaH o.2)) := by
  refine ey_run0 _ mt_391 (jsl_s rfl) ?_
  unfold jd_391 at e
  refine ey_aload (cd_391 rfl) rfl ?_
  refine ey_iconst (cd_391 rfl) ?_
  refine ey_aload_n (cd_391 rfl) rfl ?_
  refine ey_iload_n (cd_391 rfl) rfl ?_
  refine ey_iload_n (cd_391 rfl) rfl ?_
  refine ey_iload_n (cd_391 rfl) rfl ?_
  obtain ⟨a1, e2, e⟩ := jbind e
  refine ey_rs (s0 := [jI p3, jI p2, jI p1, jR p0, jI 0, jR p4]) (s1 := [jI p3, jI p2, jI p1, jR (some a1), jI 0, jR p4]) (by rw [e2]) ?_
  obtain ⟨u3, e4, e⟩ := jbind e
  rcases jtc_c e with ⟨v6, h8, e5, e⟩ | ⟨E7, h8, e5, e⟩
  rotate_left
  · by_cases q14 : E7 = 1
    · rw [if_pos q14] at e
      subst q14
      refine ey_cvH (s0 := [jI p3, jI p2, jI p1, jR (some a1), jI 0, jR p4]) (s1 := [jI 0, jR p4]) (cd_391 rfl) mt_391 rfl (cd_391 rfl) rfl rfl mt_170 rfl rfl rfl (jck_s e4) rfl (jsml_s rfl) (ok_170 e5) ?_
      refine ey_iconst (cd_391 rfl) ?_
      cases e
      exact ey_reti (cd_391 rfl) mt_391 rfl
    · rw [if_neg q14] at e
      by_cases q13 : E7 = 2
      · rw [if_pos q13] at e
        subst q13
        refine ey_cvH (s0 := [jI p3, jI p2, jI p1, jR (some a1), jI 0, jR p4]) (s1 := [jI 0, jR p4]) (cd_391 rfl) mt_391 rfl (cd_391 rfl) rfl rfl mt_170 rfl rfl rfl (jck_s e4) rfl (jsml_s rfl) (ok_170 e5) ?_
        refine ey_iconst (cd_391 rfl) ?_
        cases e
        exact ey_reti (cd_391 rfl) mt_391 rfl
      · rw [if_neg q13] at e
        cases e
  refine ey_cv (s0 := [jI p3, jI p2, jI p1, jR (some a1), jI 0, jR p4]) (s1 := [jI 0, jR p4]) (st' := [jI v6, jI 0, jR p4]) (cd_391 rfl) mt_391 mt_170 rfl rfl rfl (jck_s e4) rfl (jsml_s rfl) rfl (ok_170 e5) ?_
  refine ey_i2l (cd_391 rfl) ?_
  obtain ⟨a9, e10, e⟩ := jbind e
  refine ey_rs (s0 := [jJ (jw v6), jI 0, jR p4]) (s1 := [jJ (jw v6), jI 0, jR (some a9)]) (by rw [e10]) ?_
  obtain ⟨h11, e12, e⟩ := jbind e
  refine ey_last (cd_391 rfl) e12 ?_
  refine ey_goto (cd_391 rfl) rfl ?_
  refine ey_iconst (cd_391 rfl) ?_
  cases e
  exact ey_reti (cd_391 rfl) mt_391 rfl
theorem cd_392 {pc : Nat} {i : Instr × Nat} (h : mm_lk mm_c392 pc = some i) : mm_cd 392 pc = some i := h
theorem mt_392 : mm_MT 392 = (13, 6, some .int, 5, 1, [(0, 12, 15, 21), (0, 12, 19, 13)]) := rfl
set_option maxRecDepth 100000 in
theorem ok_392 {L : Nat} {xs : Nat → Int32} {p0 : Option Nat} {p1 : Int} {p2 : Int} {p3 : Int} {p4 : Option Nat} {h : jH} {o : (Int × jH)} (e : jd_392 p0 p1 p2 p3 p4 h = some o) : mm_Runs (mm_xt L xs) 4 392 ([jR p0, jI p1, jI p2, jI p3, jR p4].map jcv) (jaH h) (.inl (some (jcv (jI o.1)), jaH o.2)) := by
  refine ey_run0 _ mt_392 (jsl_s rfl) ?_
  unfold jd_392 at e
  refine ey_aload (cd_392 rfl) rfl ?_
  refine ey_iconst (cd_392 rfl) ?_
  refine ey_aload_n (cd_392 rfl) rfl ?_
  refine ey_iload_n (cd_392 rfl) rfl ?_
  refine ey_iload_n (cd_392 rfl) rfl ?_
  refine ey_iload_n (cd_392 rfl) rfl ?_
  obtain ⟨a1, e2, e⟩ := jbind e
  refine ey_rs (s0 := [jI p3, jI p2, jI p1, jR p0, jI 0, jR p4]) (s1 := [jI p3, jI p2, jI p1, jR (some a1), jI 0, jR p4]) (by rw [e2]) ?_
  obtain ⟨u3, e4, e⟩ := jbind e
  rcases jtc_c e with ⟨v6, h8, e5, e⟩ | ⟨E7, h8, e5, e⟩
  rotate_left
  · by_cases q14 : E7 = 0
    · rw [if_pos q14] at e
      subst q14
      refine ey_cvH (s0 := [jI p3, jI p2, jI p1, jR (some a1), jI 0, jR p4]) (s1 := [jI 0, jR p4]) (cd_392 rfl) mt_392 rfl (cd_392 rfl) rfl rfl mt_171 rfl rfl rfl (jck_s e4) rfl (jsml_s rfl) (ok_171 e5) ?_
      refine ey_iconst (cd_392 rfl) ?_
      cases e
      exact ey_reti (cd_392 rfl) mt_392 rfl
    · rw [if_neg q14] at e
      by_cases q13 : E7 = 2
      · rw [if_pos q13] at e
        subst q13
        refine ey_cvH (s0 := [jI p3, jI p2, jI p1, jR (some a1), jI 0, jR p4]) (s1 := [jI 0, jR p4]) (cd_392 rfl) mt_392 rfl (cd_392 rfl) rfl rfl mt_171 rfl rfl rfl (jck_s e4) rfl (jsml_s rfl) (ok_171 e5) ?_
        refine ey_iconst (cd_392 rfl) ?_
        cases e
        exact ey_reti (cd_392 rfl) mt_392 rfl
      · rw [if_neg q13] at e
        cases e
  refine ey_cv (s0 := [jI p3, jI p2, jI p1, jR (some a1), jI 0, jR p4]) (s1 := [jI 0, jR p4]) (st' := [jI v6, jI 0, jR p4]) (cd_392 rfl) mt_392 mt_171 rfl rfl rfl (jck_s e4) rfl (jsml_s rfl) rfl (ok_171 e5) ?_
  refine ey_i2l (cd_392 rfl) ?_
  obtain ⟨a9, e10, e⟩ := jbind e
  refine ey_rs (s0 := [jJ (jw v6), jI 0, jR p4]) (s1 := [jJ (jw v6), jI 0, jR (some a9)]) (by rw [e10]) ?_
  obtain ⟨h11, e12, e⟩ := jbind e
  refine ey_last (cd_392 rfl) e12 ?_
  refine ey_goto (cd_392 rfl) rfl ?_
  refine ey_iconst (cd_392 rfl) ?_
  cases e
  exact ey_reti (cd_392 rfl) mt_392 rfl
theorem cd_393 {pc : Nat} {i : Instr × Nat} (h : mm_lk mm_c393 pc = some i) : mm_cd 393 pc = some i := h
theorem mt_393 : mm_MT 393 = (13, 5, some .int, 4, 1, [(0, 17, 20, 21)]) := rfl
set_option maxRecDepth 100000 in
theorem ok_393 {L : Nat} {xs : Nat → Int32} {p0 : Option Nat} {p1 : Int} {p2 : Int} {p3 : Option Nat} {h : jH} {o : (Int × jH)} (e : jd_393 p0 p1 p2 p3 h = some o) : mm_Runs (mm_xt L xs) 4 393 ([jR p0, jI p1, jI p2, jR p3].map jcv) (jaH h) (.inl (some (jcv (jI o.1)), jaH o.2)) := by
  refine ey_run0 _ mt_393 (jsl_s rfl) ?_
  unfold jd_393 at e
  refine ey_aload_n (cd_393 rfl) rfl ?_
  refine ey_iconst (cd_393 rfl) ?_
  refine ey_aload_n (cd_393 rfl) rfl ?_
  refine ey_iload_n (cd_393 rfl) rfl ?_
  refine ey_iload_n (cd_393 rfl) rfl ?_
  obtain ⟨a1, e2, e⟩ := jbind e
  refine ey_rs (s0 := [jI p2, jI p1, jR p0, jI 0, jR p3]) (s1 := [jI p2, jI p1, jR (some a1), jI 0, jR p3]) (by rw [e2]) ?_
  obtain ⟨u3, e4, e⟩ := jbind e
  rcases jtc_c e with ⟨v6, h8, e5, e⟩ | ⟨E7, h8, e5, e⟩
  rotate_left
  · by_cases q15 : E7 = 2
    · rw [if_pos q15] at e
      subst q15
      refine ey_cvH (s0 := [jI p2, jI p1, jR (some a1), jI 0, jR p3]) (s1 := [jI 0, jR p3]) (cd_393 rfl) mt_393 rfl (cd_393 rfl) rfl rfl mt_172 rfl rfl rfl (jck_s e4) rfl (jsml_s rfl) (ok_172 e5) ?_
      refine ey_iconst (cd_393 rfl) ?_
      cases e
      exact ey_reti (cd_393 rfl) mt_393 rfl
    · rw [if_neg q15] at e
      cases e
  refine ey_cv (s0 := [jI p2, jI p1, jR (some a1), jI 0, jR p3]) (s1 := [jI 0, jR p3]) (st' := [jI v6, jI 0, jR p3]) (cd_393 rfl) mt_393 mt_172 rfl rfl rfl (jck_s e4) rfl (jsml_s rfl) rfl (ok_172 e5) ?_
  have K13 : ∀ lv : jL, ey (mm_xt L xs) 3 393 16 lv [jJ (if (jw v6) = 0 then 0 else 1), jI 0, jR p3] h8 (.inl (some (jcv (jI o.1)), jaH o.2)) := by
    intro lv 
    obtain ⟨a9, e10, e⟩ := jbind e
    refine ey_rs (s0 := [jJ (if (jw v6) = 0 then 0 else 1), jI 0, jR p3]) (s1 := [jJ (if (jw v6) = 0 then 0 else 1), jI 0, jR (some a9)]) (by rw [e10]) ?_
    obtain ⟨h11, e12, e⟩ := jbind e
    refine ey_last (cd_393 rfl) e12 ?_
    refine ey_goto (cd_393 rfl) rfl ?_
    refine ey_iconst (cd_393 rfl) ?_
    cases e
    exact ey_reti (cd_393 rfl) mt_393 rfl
  by_cases q14 : (jw v6) = 0
  · refine ey_zeq (cd_393 rfl) rfl rfl q14 ?_
    refine ey_lconst0 (cd_393 rfl) ?_
    exact ey_rs (s0 := [jJ 0, jI 0, jR p3]) (s1 := [jJ (if (jw v6) = 0 then 0 else 1), jI 0, jR p3]) (by rw [show ((if (jw v6) = 0 then 0 else 1) : Int) = 0 from (if_pos q14)]) (K13 (jlf (jla 0 [jR p0, jI p1, jI p2, jR p3])) )
  · refine ey_yeq (cd_393 rfl) rfl rfl q14 ?_
    refine ey_lconst1 (cd_393 rfl) ?_
    refine ey_goto (cd_393 rfl) rfl ?_
    exact ey_rs (s0 := [jJ 1, jI 0, jR p3]) (s1 := [jJ (if (jw v6) = 0 then 0 else 1), jI 0, jR p3]) (by rw [show ((if (jw v6) = 0 then 0 else 1) : Int) = 1 from (if_neg q14)]) (K13 (jlf (jla 0 [jR p0, jI p1, jI p2, jR p3])) )
theorem cd_394 {pc : Nat} {i : Instr × Nat} (h : mm_lk mm_c394 pc = some i) : mm_cd 394 pc = some i := h
theorem mt_394 : mm_MT 394 = (13, 5, some .int, 4, 1, [(0, 10, 13, 21)]) := rfl
set_option maxRecDepth 100000 in
theorem ok_394 {L : Nat} {xs : Nat → Int32} {p0 : Option Nat} {p1 : Int} {p2 : Int} {p3 : Option Nat} {h : jH} {o : (Int × jH)} (e : jd_394 p0 p1 p2 p3 h = some o) : mm_Runs (mm_xt L xs) 4 394 ([jR p0, jI p1, jI p2, jR p3].map jcv) (jaH h) (.inl (some (jcv (jI o.1)), jaH o.2)) := by
  refine ey_run0 _ mt_394 (jsl_s rfl) ?_
  unfold jd_394 at e
  refine ey_aload_n (cd_394 rfl) rfl ?_
  refine ey_iconst (cd_394 rfl) ?_
  refine ey_aload_n (cd_394 rfl) rfl ?_
  refine ey_iload_n (cd_394 rfl) rfl ?_
  refine ey_iload_n (cd_394 rfl) rfl ?_
  obtain ⟨a1, e2, e⟩ := jbind e
  refine ey_rs (s0 := [jI p2, jI p1, jR p0, jI 0, jR p3]) (s1 := [jI p2, jI p1, jR (some a1), jI 0, jR p3]) (by rw [e2]) ?_
  obtain ⟨u3, e4, e⟩ := jbind e
  rcases jtc_c e with ⟨v6, h8, e5, e⟩ | ⟨E7, h8, e5, e⟩
  rotate_left
  · by_cases q13 : E7 = 2
    · rw [if_pos q13] at e
      subst q13
      refine ey_cvH (s0 := [jI p2, jI p1, jR (some a1), jI 0, jR p3]) (s1 := [jI 0, jR p3]) (cd_394 rfl) mt_394 rfl (cd_394 rfl) rfl rfl mt_173 rfl rfl rfl (jck_s e4) rfl (jsml_s rfl) (ok_173 e5) ?_
      refine ey_iconst (cd_394 rfl) ?_
      cases e
      exact ey_reti (cd_394 rfl) mt_394 rfl
    · rw [if_neg q13] at e
      cases e
  refine ey_cv (s0 := [jI p2, jI p1, jR (some a1), jI 0, jR p3]) (s1 := [jI 0, jR p3]) (st' := [jI v6, jI 0, jR p3]) (cd_394 rfl) mt_394 mt_173 rfl rfl rfl (jck_s e4) rfl (jsml_s rfl) rfl (ok_173 e5) ?_
  refine ey_i2l (cd_394 rfl) ?_
  obtain ⟨a9, e10, e⟩ := jbind e
  refine ey_rs (s0 := [jJ (jw v6), jI 0, jR p3]) (s1 := [jJ (jw v6), jI 0, jR (some a9)]) (by rw [e10]) ?_
  obtain ⟨h11, e12, e⟩ := jbind e
  refine ey_last (cd_394 rfl) e12 ?_
  refine ey_goto (cd_394 rfl) rfl ?_
  refine ey_iconst (cd_394 rfl) ?_
  cases e
  exact ey_reti (cd_394 rfl) mt_394 rfl
theorem cd_395 {pc : Nat} {i : Instr × Nat} (h : mm_lk mm_c395 pc = some i) : mm_cd 395 pc = some i := h
theorem mt_395 : mm_MT 395 = (13, 7, some .int, 6, 1, [(0, 14, 17, 21), (0, 14, 21, 13)]) := rfl
set_option maxRecDepth 100000 in
theorem ok_395 {L : Nat} {xs : Nat → Int32} {p0 : Option Nat} {p1 : Int} {p2 : Int} {p3 : Int} {p4 : Int} {p5 : Option Nat} {h : jH} {o : (Int × jH)} (e : jd_395 p0 p1 p2 p3 p4 p5 h = some o) : mm_Runs (mm_xt L xs) 6 395 ([jR p0, jI p1, jI p2, jI p3, jI p4, jR p5].map jcv) (jaH h) (.inl (some (jcv (jI o.1)), jaH o.2)) := by
  refine ey_run0 _ mt_395 (jsl_s rfl) ?_
  unfold jd_395 at e
  refine ey_aload (cd_395 rfl) rfl ?_
  refine ey_iconst (cd_395 rfl) ?_
  refine ey_aload_n (cd_395 rfl) rfl ?_
  refine ey_iload_n (cd_395 rfl) rfl ?_
  refine ey_iload_n (cd_395 rfl) rfl ?_
  refine ey_iload_n (cd_395 rfl) rfl ?_
  refine ey_iload (cd_395 rfl) rfl ?_
  obtain ⟨a1, e2, e⟩ := jbind e
  refine ey_rs (s0 := [jI p4, jI p3, jI p2, jI p1, jR p0, jI 0, jR p5]) (s1 := [jI p4, jI p3, jI p2, jI p1, jR (some a1), jI 0, jR p5]) (by rw [e2]) ?_
  obtain ⟨u3, e4, e⟩ := jbind e
  rcases jtc_c e with ⟨v6, h8, e5, e⟩ | ⟨E7, h8, e5, e⟩
  rotate_left
  · by_cases q14 : E7 = 0
    · rw [if_pos q14] at e
      subst q14
      refine ey_cvH (s0 := [jI p4, jI p3, jI p2, jI p1, jR (some a1), jI 0, jR p5]) (s1 := [jI 0, jR p5]) (cd_395 rfl) mt_395 rfl (cd_395 rfl) rfl rfl mt_174 rfl rfl rfl (jck_s e4) rfl (jsml_s rfl) (ok_174 e5) ?_
      refine ey_iconst (cd_395 rfl) ?_
      cases e
      exact ey_reti (cd_395 rfl) mt_395 rfl
    · rw [if_neg q14] at e
      by_cases q13 : E7 = 2
      · rw [if_pos q13] at e
        subst q13
        refine ey_cvH (s0 := [jI p4, jI p3, jI p2, jI p1, jR (some a1), jI 0, jR p5]) (s1 := [jI 0, jR p5]) (cd_395 rfl) mt_395 rfl (cd_395 rfl) rfl rfl mt_174 rfl rfl rfl (jck_s e4) rfl (jsml_s rfl) (ok_174 e5) ?_
        refine ey_iconst (cd_395 rfl) ?_
        cases e
        exact ey_reti (cd_395 rfl) mt_395 rfl
      · rw [if_neg q13] at e
        cases e
  refine ey_cv (s0 := [jI p4, jI p3, jI p2, jI p1, jR (some a1), jI 0, jR p5]) (s1 := [jI 0, jR p5]) (st' := [jI v6, jI 0, jR p5]) (cd_395 rfl) mt_395 mt_174 rfl rfl rfl (jck_s e4) rfl (jsml_s rfl) rfl (ok_174 e5) ?_
  refine ey_i2l (cd_395 rfl) ?_
  obtain ⟨a9, e10, e⟩ := jbind e
  refine ey_rs (s0 := [jJ (jw v6), jI 0, jR p5]) (s1 := [jJ (jw v6), jI 0, jR (some a9)]) (by rw [e10]) ?_
  obtain ⟨h11, e12, e⟩ := jbind e
  refine ey_last (cd_395 rfl) e12 ?_
  refine ey_goto (cd_395 rfl) rfl ?_
  refine ey_iconst (cd_395 rfl) ?_
  cases e
  exact ey_reti (cd_395 rfl) mt_395 rfl
theorem cd_396 {pc : Nat} {i : Instr × Nat} (h : mm_lk mm_c396 pc = some i) : mm_cd 396 pc = some i := h
theorem mt_396 : mm_MT 396 = (13, 6, some .int, 5, 1, [(0, 9, 12, 21), (0, 9, 16, 13)]) := rfl
set_option maxRecDepth 100000 in
theorem ok_396 {L : Nat} {xs : Nat → Int32} {p0 : Option Nat} {p1 : Int} {p2 : Int} {p3 : Int} {p4 : Int} {h : jH} {o : (Int × jH)} (e : jd_396 p0 p1 p2 p3 p4 h = some o) : mm_Runs (mm_xt L xs) 4 396 ([jR p0, jI p1, jI p2, jI p3, jI p4].map jcv) (jaH h) (.inl (some (jcv (jI o.1)), jaH o.2)) := by
  refine ey_run0 _ mt_396 (jsl_s rfl) ?_
  unfold jd_396 at e
  refine ey_aload_n (cd_396 rfl) rfl ?_
  refine ey_iload_n (cd_396 rfl) rfl ?_
  refine ey_iload_n (cd_396 rfl) rfl ?_
  refine ey_iload_n (cd_396 rfl) rfl ?_
  refine ey_iload (cd_396 rfl) rfl ?_
  obtain ⟨a1, e2, e⟩ := jbind e
  refine ey_rs (s0 := [jI p4, jI p3, jI p2, jI p1, jR p0]) (s1 := [jI p4, jI p3, jI p2, jI p1, jR (some a1)]) (by rw [e2]) ?_
  obtain ⟨u3, e4, e⟩ := jbind e
  rcases jtc_c e with ⟨v6, h8, e5, e⟩ | ⟨E7, h8, e5, e⟩
  rotate_left
  · by_cases q10 : E7 = 0
    · rw [if_pos q10] at e
      subst q10
      refine ey_cvH (s0 := [jI p4, jI p3, jI p2, jI p1, jR (some a1)]) (s1 := []) (cd_396 rfl) mt_396 rfl (cd_396 rfl) rfl rfl mt_175 rfl rfl rfl (jck_s e4) rfl (jsml_s rfl) (ok_175 e5) ?_
      refine ey_iconst (cd_396 rfl) ?_
      cases e
      exact ey_reti (cd_396 rfl) mt_396 rfl
    · rw [if_neg q10] at e
      by_cases q9 : E7 = 2
      · rw [if_pos q9] at e
        subst q9
        refine ey_cvH (s0 := [jI p4, jI p3, jI p2, jI p1, jR (some a1)]) (s1 := []) (cd_396 rfl) mt_396 rfl (cd_396 rfl) rfl rfl mt_175 rfl rfl rfl (jck_s e4) rfl (jsml_s rfl) (ok_175 e5) ?_
        refine ey_iconst (cd_396 rfl) ?_
        cases e
        exact ey_reti (cd_396 rfl) mt_396 rfl
      · rw [if_neg q9] at e
        cases e
  refine ey_cv (s0 := [jI p4, jI p3, jI p2, jI p1, jR (some a1)]) (s1 := []) (st' := []) (cd_396 rfl) mt_396 mt_175 rfl rfl rfl (jck_s e4) rfl (jsml_s rfl) rfl (ok_175 e5) ?_
  refine ey_goto (cd_396 rfl) rfl ?_
  refine ey_iconst (cd_396 rfl) ?_
  cases e
  exact ey_reti (cd_396 rfl) mt_396 rfl
theorem cd_397 {pc : Nat} {i : Instr × Nat} (h : mm_lk mm_c397 pc = some i) : mm_cd 397 pc = some i := h
theorem mt_397 : mm_MT 397 = (13, 4, some .int, 3, 1, [(0, 9, 12, 21), (0, 9, 15, 15)]) := rfl
set_option maxRecDepth 100000 in
theorem ok_397 {L : Nat} {xs : Nat → Int32} {p0 : Option Nat} {p1 : Int} {p2 : Option Nat} {h : jH} {o : (Int × jH)} (e : jd_397 p0 p1 p2 h = some o) : mm_Runs (mm_xt L xs) 9 397 ([jR p0, jI p1, jR p2].map jcv) (jaH h) (.inl (some (jcv (jI o.1)), jaH o.2)) := by
  refine ey_run0 _ mt_397 (jsl_s rfl) ?_
  unfold jd_397 at e
  refine ey_aload_n (cd_397 rfl) rfl ?_
  refine ey_iconst (cd_397 rfl) ?_
  refine ey_aload_n (cd_397 rfl) rfl ?_
  refine ey_iload_n (cd_397 rfl) rfl ?_
  obtain ⟨a1, e2, e⟩ := jbind e
  refine ey_rs (s0 := [jI p1, jR p0, jI 0, jR p2]) (s1 := [jI p1, jR (some a1), jI 0, jR p2]) (by rw [e2]) ?_
  obtain ⟨u3, e4, e⟩ := jbind e
  rcases jtc_c e with ⟨v6, h8, e5, e⟩ | ⟨E7, h8, e5, e⟩
  rotate_left
  · by_cases q14 : E7 = 1
    · rw [if_pos q14] at e
      subst q14
      refine ey_cvH (s0 := [jI p1, jR (some a1), jI 0, jR p2]) (s1 := [jI 0, jR p2]) (cd_397 rfl) mt_397 rfl (cd_397 rfl) rfl rfl mt_176 rfl rfl rfl (jck_s e4) rfl (jsml_s rfl) (ok_176 e5) ?_
      refine ey_iconst (cd_397 rfl) ?_
      cases e
      exact ey_reti (cd_397 rfl) mt_397 rfl
    · rw [if_neg q14] at e
      by_cases q13 : E7 = 2
      · rw [if_pos q13] at e
        subst q13
        refine ey_cvH (s0 := [jI p1, jR (some a1), jI 0, jR p2]) (s1 := [jI 0, jR p2]) (cd_397 rfl) mt_397 rfl (cd_397 rfl) rfl rfl mt_176 rfl rfl rfl (jck_s e4) rfl (jsml_s rfl) (ok_176 e5) ?_
        refine ey_iconst (cd_397 rfl) ?_
        cases e
        exact ey_reti (cd_397 rfl) mt_397 rfl
      · rw [if_neg q13] at e
        cases e
  refine ey_cv (s0 := [jI p1, jR (some a1), jI 0, jR p2]) (s1 := [jI 0, jR p2]) (st' := [jI v6, jI 0, jR p2]) (cd_397 rfl) mt_397 mt_176 rfl rfl rfl (jck_s e4) rfl (jsml_s rfl) rfl (ok_176 e5) ?_
  refine ey_i2l (cd_397 rfl) ?_
  obtain ⟨a9, e10, e⟩ := jbind e
  refine ey_rs (s0 := [jJ (jw v6), jI 0, jR p2]) (s1 := [jJ (jw v6), jI 0, jR (some a9)]) (by rw [e10]) ?_
  obtain ⟨h11, e12, e⟩ := jbind e
  refine ey_last (cd_397 rfl) e12 ?_
  refine ey_goto (cd_397 rfl) rfl ?_
  refine ey_iconst (cd_397 rfl) ?_
  cases e
  exact ey_reti (cd_397 rfl) mt_397 rfl
theorem cd_398 {pc : Nat} {i : Instr × Nat} (h : mm_lk mm_c398 pc = some i) : mm_cd 398 pc = some i := h
theorem mt_398 : mm_MT 398 = (13, 4, some .int, 3, 1, [(0, 6, 9, 21), (0, 6, 12, 15)]) := rfl
set_option maxRecDepth 100000 in
theorem ok_398 {L : Nat} {xs : Nat → Int32} {p0 : Option Nat} {p1 : Int} {p2 : Int} {h : jH} {o : (Int × jH)} (e : jd_398 p0 p1 p2 h = some o) : mm_Runs (mm_xt L xs) 4 398 ([jR p0, jI p1, jI p2].map jcv) (jaH h) (.inl (some (jcv (jI o.1)), jaH o.2)) := by
  refine ey_run0 _ mt_398 (jsl_s rfl) ?_
  unfold jd_398 at e
  refine ey_aload_n (cd_398 rfl) rfl ?_
  refine ey_iload_n (cd_398 rfl) rfl ?_
  refine ey_iload_n (cd_398 rfl) rfl ?_
  obtain ⟨a1, e2, e⟩ := jbind e
  refine ey_rs (s0 := [jI p2, jI p1, jR p0]) (s1 := [jI p2, jI p1, jR (some a1)]) (by rw [e2]) ?_
  obtain ⟨u3, e4, e⟩ := jbind e
  rcases jtc_c e with ⟨v6, h8, e5, e⟩ | ⟨E7, h8, e5, e⟩
  rotate_left
  · by_cases q10 : E7 = 1
    · rw [if_pos q10] at e
      subst q10
      refine ey_cvH (s0 := [jI p2, jI p1, jR (some a1)]) (s1 := []) (cd_398 rfl) mt_398 rfl (cd_398 rfl) rfl rfl mt_177 rfl rfl rfl (jck_s e4) rfl (jsml_s rfl) (ok_177 e5) ?_
      refine ey_iconst (cd_398 rfl) ?_
      cases e
      exact ey_reti (cd_398 rfl) mt_398 rfl
    · rw [if_neg q10] at e
      by_cases q9 : E7 = 2
      · rw [if_pos q9] at e
        subst q9
        refine ey_cvH (s0 := [jI p2, jI p1, jR (some a1)]) (s1 := []) (cd_398 rfl) mt_398 rfl (cd_398 rfl) rfl rfl mt_177 rfl rfl rfl (jck_s e4) rfl (jsml_s rfl) (ok_177 e5) ?_
        refine ey_iconst (cd_398 rfl) ?_
        cases e
        exact ey_reti (cd_398 rfl) mt_398 rfl
      · rw [if_neg q9] at e
        cases e
  refine ey_cv (s0 := [jI p2, jI p1, jR (some a1)]) (s1 := []) (st' := []) (cd_398 rfl) mt_398 mt_177 rfl rfl rfl (jck_s e4) rfl (jsml_s rfl) rfl (ok_177 e5) ?_
  refine ey_goto (cd_398 rfl) rfl ?_
  refine ey_iconst (cd_398 rfl) ?_
  cases e
  exact ey_reti (cd_398 rfl) mt_398 rfl
theorem cd_399 {pc : Nat} {i : Instr × Nat} (h : mm_lk mm_c399 pc = some i) : mm_cd 399 pc = some i := h
theorem mt_399 : mm_MT 399 = (13, 4, some .int, 3, 1, [(0, 6, 9, 21), (0, 6, 12, 15)]) := rfl
set_option maxRecDepth 100000 in
theorem ok_399 {L : Nat} {xs : Nat → Int32} {p0 : Option Nat} {p1 : Int} {p2 : Int} {h : jH} {o : (Int × jH)} (e : jd_399 p0 p1 p2 h = some o) : mm_Runs (mm_xt L xs) 4 399 ([jR p0, jI p1, jI p2].map jcv) (jaH h) (.inl (some (jcv (jI o.1)), jaH o.2)) := by
  refine ey_run0 _ mt_399 (jsl_s rfl) ?_
  unfold jd_399 at e
  refine ey_aload_n (cd_399 rfl) rfl ?_
  refine ey_iload_n (cd_399 rfl) rfl ?_
  refine ey_iload_n (cd_399 rfl) rfl ?_
  obtain ⟨a1, e2, e⟩ := jbind e
  refine ey_rs (s0 := [jI p2, jI p1, jR p0]) (s1 := [jI p2, jI p1, jR (some a1)]) (by rw [e2]) ?_
  obtain ⟨u3, e4, e⟩ := jbind e
  rcases jtc_c e with ⟨v6, h8, e5, e⟩ | ⟨E7, h8, e5, e⟩
  rotate_left
  · by_cases q10 : E7 = 1
    · rw [if_pos q10] at e
      subst q10
      refine ey_cvH (s0 := [jI p2, jI p1, jR (some a1)]) (s1 := []) (cd_399 rfl) mt_399 rfl (cd_399 rfl) rfl rfl mt_178 rfl rfl rfl (jck_s e4) rfl (jsml_s rfl) (ok_178 e5) ?_
      refine ey_iconst (cd_399 rfl) ?_
      cases e
      exact ey_reti (cd_399 rfl) mt_399 rfl
    · rw [if_neg q10] at e
      by_cases q9 : E7 = 2
      · rw [if_pos q9] at e
        subst q9
        refine ey_cvH (s0 := [jI p2, jI p1, jR (some a1)]) (s1 := []) (cd_399 rfl) mt_399 rfl (cd_399 rfl) rfl rfl mt_178 rfl rfl rfl (jck_s e4) rfl (jsml_s rfl) (ok_178 e5) ?_
        refine ey_iconst (cd_399 rfl) ?_
        cases e
        exact ey_reti (cd_399 rfl) mt_399 rfl
      · rw [if_neg q9] at e
        cases e
  refine ey_cv (s0 := [jI p2, jI p1, jR (some a1)]) (s1 := []) (st' := []) (cd_399 rfl) mt_399 mt_178 rfl rfl rfl (jck_s e4) rfl (jsml_s rfl) rfl (ok_178 e5) ?_
  refine ey_goto (cd_399 rfl) rfl ?_
  refine ey_iconst (cd_399 rfl) ?_
  cases e
  exact ey_reti (cd_399 rfl) mt_399 rfl
theorem cd_400 {pc : Nat} {i : Instr × Nat} (h : mm_lk mm_c400 pc = some i) : mm_cd 400 pc = some i := h
theorem mt_400 : mm_MT 400 = (13, 5, some .int, 4, 1, [(0, 10, 13, 21), (0, 10, 17, 13), (0, 10, 21, 15)]) := rfl
set_option maxRecDepth 100000 in
theorem ok_400 {L : Nat} {xs : Nat → Int32} {p0 : Option Nat} {p1 : Int} {p2 : Int} {p3 : Option Nat} {h : jH} {o : (Int × jH)} (e : jd_400 p0 p1 p2 p3 h = some o) : mm_Runs (mm_xt L xs) 3 400 ([jR p0, jI p1, jI p2, jR p3].map jcv) (jaH h) (.inl (some (jcv (jI o.1)), jaH o.2)) := by
  refine ey_run0 _ mt_400 (jsl_s rfl) ?_
  unfold jd_400 at e
  refine ey_aload_n (cd_400 rfl) rfl ?_
  refine ey_iconst (cd_400 rfl) ?_
  refine ey_aload_n (cd_400 rfl) rfl ?_
  refine ey_iload_n (cd_400 rfl) rfl ?_
  refine ey_iload_n (cd_400 rfl) rfl ?_
  obtain ⟨a1, e2, e⟩ := jbind e
  refine ey_rs (s0 := [jI p2, jI p1, jR p0, jI 0, jR p3]) (s1 := [jI p2, jI p1, jR (some a1), jI 0, jR p3]) (by rw [e2]) ?_
  obtain ⟨u3, e4, e⟩ := jbind e
  rcases jtc_c e with ⟨v6, h8, e5, e⟩ | ⟨E7, h8, e5, e⟩
  rotate_left
  · by_cases q15 : E7 = 0
    · rw [if_pos q15] at e
      subst q15
      refine ey_cvH (s0 := [jI p2, jI p1, jR (some a1), jI 0, jR p3]) (s1 := [jI 0, jR p3]) (cd_400 rfl) mt_400 rfl (cd_400 rfl) rfl rfl mt_179 rfl rfl rfl (jck_s e4) rfl (jsml_s rfl) (ok_179 e5) ?_
      refine ey_iconst (cd_400 rfl) ?_
      cases e
      exact ey_reti (cd_400 rfl) mt_400 rfl
    · rw [if_neg q15] at e
      by_cases q14 : E7 = 1
      · rw [if_pos q14] at e
        subst q14
        refine ey_cvH (s0 := [jI p2, jI p1, jR (some a1), jI 0, jR p3]) (s1 := [jI 0, jR p3]) (cd_400 rfl) mt_400 rfl (cd_400 rfl) rfl rfl mt_179 rfl rfl rfl (jck_s e4) rfl (jsml_s rfl) (ok_179 e5) ?_
        refine ey_iconst (cd_400 rfl) ?_
        cases e
        exact ey_reti (cd_400 rfl) mt_400 rfl
      · rw [if_neg q14] at e
        by_cases q13 : E7 = 2
        · rw [if_pos q13] at e
          subst q13
          refine ey_cvH (s0 := [jI p2, jI p1, jR (some a1), jI 0, jR p3]) (s1 := [jI 0, jR p3]) (cd_400 rfl) mt_400 rfl (cd_400 rfl) rfl rfl mt_179 rfl rfl rfl (jck_s e4) rfl (jsml_s rfl) (ok_179 e5) ?_
          refine ey_iconst (cd_400 rfl) ?_
          cases e
          exact ey_reti (cd_400 rfl) mt_400 rfl
        · rw [if_neg q13] at e
          cases e
  refine ey_cv (s0 := [jI p2, jI p1, jR (some a1), jI 0, jR p3]) (s1 := [jI 0, jR p3]) (st' := [jI v6, jI 0, jR p3]) (cd_400 rfl) mt_400 mt_179 rfl rfl rfl (jck_s e4) rfl (jsml_s rfl) rfl (ok_179 e5) ?_
  refine ey_i2l (cd_400 rfl) ?_
  obtain ⟨a9, e10, e⟩ := jbind e
  refine ey_rs (s0 := [jJ (jw v6), jI 0, jR p3]) (s1 := [jJ (jw v6), jI 0, jR (some a9)]) (by rw [e10]) ?_
  obtain ⟨h11, e12, e⟩ := jbind e
  refine ey_last (cd_400 rfl) e12 ?_
  refine ey_goto (cd_400 rfl) rfl ?_
  refine ey_iconst (cd_400 rfl) ?_
  cases e
  exact ey_reti (cd_400 rfl) mt_400 rfl
theorem cd_401 {pc : Nat} {i : Instr × Nat} (h : mm_lk mm_c401 pc = some i) : mm_cd 401 pc = some i := h
theorem mt_401 : mm_MT 401 = (13, 7, some .int, 6, 1, [(0, 14, 17, 21), (0, 14, 21, 15)]) := rfl
set_option maxRecDepth 100000 in
theorem ok_401 {L : Nat} {xs : Nat → Int32} {p0 : Option Nat} {p1 : Int} {p2 : Int} {p3 : Int} {p4 : Int} {p5 : Option Nat} {h : jH} {o : (Int × jH)} (e : jd_401 p0 p1 p2 p3 p4 p5 h = some o) : mm_Runs (mm_xt L xs) 4 401 ([jR p0, jI p1, jI p2, jI p3, jI p4, jR p5].map jcv) (jaH h) (.inl (some (jcv (jI o.1)), jaH o.2)) := by
  refine ey_run0 _ mt_401 (jsl_s rfl) ?_
  unfold jd_401 at e
  refine ey_aload (cd_401 rfl) rfl ?_
  refine ey_iconst (cd_401 rfl) ?_
  refine ey_aload_n (cd_401 rfl) rfl ?_
  refine ey_iload_n (cd_401 rfl) rfl ?_
  refine ey_iload_n (cd_401 rfl) rfl ?_
  refine ey_iload_n (cd_401 rfl) rfl ?_
  refine ey_iload (cd_401 rfl) rfl ?_
  obtain ⟨a1, e2, e⟩ := jbind e
  refine ey_rs (s0 := [jI p4, jI p3, jI p2, jI p1, jR p0, jI 0, jR p5]) (s1 := [jI p4, jI p3, jI p2, jI p1, jR (some a1), jI 0, jR p5]) (by rw [e2]) ?_
  obtain ⟨u3, e4, e⟩ := jbind e
  rcases jtc_c e with ⟨v6, h8, e5, e⟩ | ⟨E7, h8, e5, e⟩
  rotate_left
  · by_cases q14 : E7 = 1
    · rw [if_pos q14] at e
      subst q14
      refine ey_cvH (s0 := [jI p4, jI p3, jI p2, jI p1, jR (some a1), jI 0, jR p5]) (s1 := [jI 0, jR p5]) (cd_401 rfl) mt_401 rfl (cd_401 rfl) rfl rfl mt_180 rfl rfl rfl (jck_s e4) rfl (jsml_s rfl) (ok_180 e5) ?_
      refine ey_iconst (cd_401 rfl) ?_
      cases e
      exact ey_reti (cd_401 rfl) mt_401 rfl
    · rw [if_neg q14] at e
      by_cases q13 : E7 = 2
      · rw [if_pos q13] at e
        subst q13
        refine ey_cvH (s0 := [jI p4, jI p3, jI p2, jI p1, jR (some a1), jI 0, jR p5]) (s1 := [jI 0, jR p5]) (cd_401 rfl) mt_401 rfl (cd_401 rfl) rfl rfl mt_180 rfl rfl rfl (jck_s e4) rfl (jsml_s rfl) (ok_180 e5) ?_
        refine ey_iconst (cd_401 rfl) ?_
        cases e
        exact ey_reti (cd_401 rfl) mt_401 rfl
      · rw [if_neg q13] at e
        cases e
  refine ey_cv (s0 := [jI p4, jI p3, jI p2, jI p1, jR (some a1), jI 0, jR p5]) (s1 := [jI 0, jR p5]) (st' := [jI v6, jI 0, jR p5]) (cd_401 rfl) mt_401 mt_180 rfl rfl rfl (jck_s e4) rfl (jsml_s rfl) rfl (ok_180 e5) ?_
  refine ey_i2l (cd_401 rfl) ?_
  obtain ⟨a9, e10, e⟩ := jbind e
  refine ey_rs (s0 := [jJ (jw v6), jI 0, jR p5]) (s1 := [jJ (jw v6), jI 0, jR (some a9)]) (by rw [e10]) ?_
  obtain ⟨h11, e12, e⟩ := jbind e
  refine ey_last (cd_401 rfl) e12 ?_
  refine ey_goto (cd_401 rfl) rfl ?_
  refine ey_iconst (cd_401 rfl) ?_
  cases e
  exact ey_reti (cd_401 rfl) mt_401 rfl
theorem cd_402 {pc : Nat} {i : Instr × Nat} (h : mm_lk mm_c402 pc = some i) : mm_cd 402 pc = some i := h
theorem mt_402 : mm_MT 402 = (13, 4, some .int, 3, 1, [(0, 9, 12, 13)]) := rfl
set_option maxRecDepth 100000 in
theorem ok_402 {L : Nat} {xs : Nat → Int32} {p0 : Option Nat} {p1 : Int} {p2 : Option Nat} {h : jH} {o : (Int × jH)} (e : jd_402 p0 p1 p2 h = some o) : mm_Runs (mm_xt L xs) 3 402 ([jR p0, jI p1, jR p2].map jcv) (jaH h) (.inl (some (jcv (jI o.1)), jaH o.2)) := by
  refine ey_run0 _ mt_402 (jsl_s rfl) ?_
  unfold jd_402 at e
  refine ey_aload_n (cd_402 rfl) rfl ?_
  refine ey_iconst (cd_402 rfl) ?_
  refine ey_aload_n (cd_402 rfl) rfl ?_
  refine ey_iload_n (cd_402 rfl) rfl ?_
  obtain ⟨a1, e2, e⟩ := jbind e
  refine ey_rs (s0 := [jI p1, jR p0, jI 0, jR p2]) (s1 := [jI p1, jR (some a1), jI 0, jR p2]) (by rw [e2]) ?_
  obtain ⟨u3, e4, e⟩ := jbind e
  rcases jtc_c e with ⟨v6, h8, e5, e⟩ | ⟨E7, h8, e5, e⟩
  rotate_left
  · by_cases q13 : E7 = 0
    · rw [if_pos q13] at e
      subst q13
      refine ey_cvH (s0 := [jI p1, jR (some a1), jI 0, jR p2]) (s1 := [jI 0, jR p2]) (cd_402 rfl) mt_402 rfl (cd_402 rfl) rfl rfl mt_181 rfl rfl rfl (jck_s e4) rfl (jsml_s rfl) (ok_181 e5) ?_
      refine ey_iconst (cd_402 rfl) ?_
      cases e
      exact ey_reti (cd_402 rfl) mt_402 rfl
    · rw [if_neg q13] at e
      cases e
  refine ey_cv (s0 := [jI p1, jR (some a1), jI 0, jR p2]) (s1 := [jI 0, jR p2]) (st' := [jI v6, jI 0, jR p2]) (cd_402 rfl) mt_402 mt_181 rfl rfl rfl (jck_s e4) rfl (jsml_s rfl) rfl (ok_181 e5) ?_
  refine ey_i2l (cd_402 rfl) ?_
  obtain ⟨a9, e10, e⟩ := jbind e
  refine ey_rs (s0 := [jJ (jw v6), jI 0, jR p2]) (s1 := [jJ (jw v6), jI 0, jR (some a9)]) (by rw [e10]) ?_
  obtain ⟨h11, e12, e⟩ := jbind e
  refine ey_last (cd_402 rfl) e12 ?_
  refine ey_goto (cd_402 rfl) rfl ?_
  refine ey_iconst (cd_402 rfl) ?_
  cases e
  exact ey_reti (cd_402 rfl) mt_402 rfl
theorem cd_403 {pc : Nat} {i : Instr × Nat} (h : mm_lk mm_c403 pc = some i) : mm_cd 403 pc = some i := h
theorem mt_403 : mm_MT 403 = (13, 7, some .boolean, 1, 1, []) := rfl
set_option maxRecDepth 100000 in
theorem jk_403_b3169 {L : Nat} {xs : Nat → Int32} {x1 : Option Nat} {x2 : Option Nat} {x3 : Option Nat} {x4 : Int} {h : jH} {o : ((Int × jH) ⊕ jH)} {r : mm_R} (e : jd_403_b3169 L xs x1 x2 x3 x4 h = some o) (K : jsm (fun s => (∀ lv : jL, lv 0 = some (jR (some 1000000)) → lv 1 = some (jR x1) → lv 2 = some (jR x2) → lv 3 = some (jR x3) → lv 4 = some (jI s.1) → ey (mm_xt L xs) 72 403 23 lv [] s.2 r)) (fun x => (∀ lv : jL, ey (mm_xt L xs) 72 403 3175 lv [] x r)) o) : ∀ lv : jL, lv 0 = some (jR (some 1000000)) → lv 1 = some (jR x1) → lv 2 = some (jR x2) → lv 3 = some (jR x3) → lv 4 = some (jI x4) → ey (mm_xt L xs) 72 403 3169 lv [] h r := by
  intro lv f0 f1 f2 f3 f4
  unfold jd_403_b3169 at e
  refine ey_iinc (cd_403 rfl) mt_403 rfl f4 ?_
  refine ey_goto (cd_403 rfl) rfl ?_
  cases e
  exact K (jup lv 4 (jI (x4 + 8))) f0 f1 f2 (jup_pr (lv := lv) (j := 3) (v := jI (x4 + 8)) (z := x3) f3) rfl
set_option maxRecDepth 100000 in
theorem jk_403_b325 {L : Nat} {xs : Nat → Int32} {x1 : Option Nat} {x2 : Option Nat} {x3 : Option Nat} {x4 : Int} {h : jH} {o : ((Int × jH) ⊕ jH)} {r : mm_R} (e : jd_403_b325 L xs x1 x2 x3 x4 h = some o) (K : jsm (fun s => (∀ lv : jL, lv 0 = some (jR (some 1000000)) → lv 1 = some (jR x1) → lv 2 = some (jR x2) → lv 3 = some (jR x3) → lv 4 = some (jI s.1) → ey (mm_xt L xs) 72 403 23 lv [] s.2 r)) (fun x => (∀ lv : jL, ey (mm_xt L xs) 72 403 3175 lv [] x r)) o) : ∀ lv : jL, lv 0 = some (jR (some 1000000)) → lv 1 = some (jR x1) → lv 2 = some (jR x2) → lv 3 = some (jR x3) → lv 4 = some (jI x4) → ey (mm_xt L xs) 72 403 325 lv [] h r := by
  intro lv f0 f1 f2 f3 f4
  unfold jd_403_b325 at e
  refine ey_goto (cd_403 rfl) rfl ?_
  exact jk_403_b3169 e K lv f0 f1 f2 f3 f4
set_option maxRecDepth 100000 in
theorem jk_403_b224 {L : Nat} {xs : Nat → Int32} {x1 : Option Nat} {x2 : Option Nat} {x3 : Option Nat} {x4 : Int} {h : jH} {o : ((Int × jH) ⊕ jH)} {r : mm_R} (e : jd_403_b224 L xs x1 x2 x3 x4 h = some o) (K : jsm (fun s => (∀ lv : jL, lv 0 = some (jR (some 1000000)) → lv 1 = some (jR x1) → lv 2 = some (jR x2) → lv 3 = some (jR x3) → lv 4 = some (jI s.1) → ey (mm_xt L xs) 72 403 23 lv [] s.2 r)) (fun x => (∀ lv : jL, ey (mm_xt L xs) 72 403 3175 lv [] x r)) o) : ∀ lv : jL, lv 0 = some (jR (some 1000000)) → lv 1 = some (jR x1) → lv 2 = some (jR x2) → lv 3 = some (jR x3) → lv 4 = some (jI x4) → ey (mm_xt L xs) 72 403 224 lv [] h r := by
  intro lv f0 f1 f2 f3 f4
  unfold jd_403_b224 at e
  refine ey_aload_n (cd_403 rfl) f1 ?_
  refine ey_aload_n (cd_403 rfl) f0 ?_
  refine ey_iload (cd_403 rfl) f4 ?_
  refine ey_iconst (cd_403 rfl) ?_
  refine ey_iadd (cd_403 rfl) ?_
  obtain ⟨v15, e16, e⟩ := jbind e
  refine ey_iasc (cd_403 rfl) e16 ?_
  refine ey_aload_n (cd_403 rfl) f0 ?_
  refine ey_iload (cd_403 rfl) f4 ?_
  refine ey_iconst (cd_403 rfl) ?_
  refine ey_iadd (cd_403 rfl) ?_
  obtain ⟨v17, e18, e⟩ := jbind e
  refine ey_iasc (cd_403 rfl) e18 ?_
  refine ey_aload_n (cd_403 rfl) f0 ?_
  refine ey_iload (cd_403 rfl) f4 ?_
  refine ey_iconst (cd_403 rfl) ?_
  refine ey_iadd (cd_403 rfl) ?_
  obtain ⟨v19, e20, e⟩ := jbind e
  refine ey_iasc (cd_403 rfl) e20 ?_
  refine ey_aload_n (cd_403 rfl) f0 ?_
  refine ey_iload (cd_403 rfl) f4 ?_
  refine ey_iconst (cd_403 rfl) ?_
  refine ey_iadd (cd_403 rfl) ?_
  obtain ⟨v21, e22, e⟩ := jbind e
  refine ey_iasc (cd_403 rfl) e22 ?_
  refine ey_aload_n (cd_403 rfl) f0 ?_
  refine ey_iload (cd_403 rfl) f4 ?_
  refine ey_iconst (cd_403 rfl) ?_
  refine ey_iadd (cd_403 rfl) ?_
  obtain ⟨v23, e24, e⟩ := jbind e
  refine ey_iasc (cd_403 rfl) e24 ?_
  refine ey_aload_n (cd_403 rfl) f3 ?_
  obtain ⟨q25, e26, e⟩ := jbind e
  refine ey_cs (s0 := [jR x3, jI v23, jI v21, jI v19, jI v17, jI v15, jR x1]) (s1 := []) (st' := [jI q25.1]) (cd_403 rfl) mt_403 mt_365 rfl (by decide) rfl rfl (jsml_s rfl) rfl (mm_Runs.up (d := 4) (by decide) (ok_365 e26)) ?_
  refine ey_istore (cd_403 rfl) mt_403 rfl ?_
  refine ey_aload_n (cd_403 rfl) f2 ?_
  refine ey_aload_n (cd_403 rfl) f0 ?_
  refine ey_iload (cd_403 rfl) (jup_pi (lv := lv) (j := 4) (v := jI q25.1) (z := x4) f4) ?_
  refine ey_iconst (cd_403 rfl) ?_
  refine ey_iadd (cd_403 rfl) ?_
  obtain ⟨v27, e28, e⟩ := jbind e
  refine ey_iasc (cd_403 rfl) e28 ?_
  refine ey_aload_n (cd_403 rfl) f0 ?_
  refine ey_iload (cd_403 rfl) (jup_pi (lv := lv) (j := 4) (v := jI q25.1) (z := x4) f4) ?_
  refine ey_iconst (cd_403 rfl) ?_
  refine ey_iadd (cd_403 rfl) ?_
  obtain ⟨v29, e30, e⟩ := jbind e
  refine ey_iasc (cd_403 rfl) e30 ?_
  refine ey_aload_n (cd_403 rfl) f0 ?_
  refine ey_iload (cd_403 rfl) (jup_pi (lv := lv) (j := 4) (v := jI q25.1) (z := x4) f4) ?_
  refine ey_iconst (cd_403 rfl) ?_
  refine ey_iadd (cd_403 rfl) ?_
  obtain ⟨v31, e32, e⟩ := jbind e
  refine ey_iasc (cd_403 rfl) e32 ?_
  refine ey_aload_n (cd_403 rfl) f0 ?_
  refine ey_iload (cd_403 rfl) (jup_pi (lv := lv) (j := 4) (v := jI q25.1) (z := x4) f4) ?_
  refine ey_iconst (cd_403 rfl) ?_
  refine ey_iadd (cd_403 rfl) ?_
  obtain ⟨v33, e34, e⟩ := jbind e
  refine ey_iasc (cd_403 rfl) e34 ?_
  refine ey_aload_n (cd_403 rfl) f0 ?_
  refine ey_iload (cd_403 rfl) (jup_pi (lv := lv) (j := 4) (v := jI q25.1) (z := x4) f4) ?_
  refine ey_iconst (cd_403 rfl) ?_
  refine ey_iadd (cd_403 rfl) ?_
  obtain ⟨v35, e36, e⟩ := jbind e
  refine ey_iasc (cd_403 rfl) e36 ?_
  obtain ⟨a37, e38, e⟩ := jbind e
  refine ey_rs (s0 := [jI v35, jI v33, jI v31, jI v29, jI v27, jR x2]) (s1 := [jI v35, jI v33, jI v31, jI v29, jI v27, jR (some a37)]) (by rw [e38]) ?_
  obtain ⟨u39, e40, e⟩ := jbind e
  have w41 := jlk_s e40
  refine ey_rs (s0 := [jI v35, jI v33, jI v31, jI v29, jI v27, jR (some a37)]) (s1 := [jI v35, jI v33, jI v31, jI v29, jI v27, jR (some 76)]) (by rw [w41.1]) ?_
  obtain ⟨q42, e43, e⟩ := jbind e
  refine ey_cv (s0 := [jI v35, jI v33, jI v31, jI v29, jI v27, jR (some 76)]) (s1 := []) (st' := [jI q42.1]) (cd_403 rfl) mt_403 mt_214 rfl rfl rfl ⟨Nat.lt_of_lt_of_le (by decide) w41.2.1, w41.2.2.2.1⟩ rfl (jsml_s rfl) rfl (mm_Runs.up (d := 3) (by decide) (by have w := ok_214 (L := L) (xs := xs) (b := q25.2) (m := jmf q25.2) w41.2.1 w41.2.2.1 e43; rw [w41.2.2.2.2] at w; exact w)) ?_
  obtain ⟨h44, e45, e⟩ := jbind e
  refine ey_hs (Option.some.inj e45) ?_
  refine ey_istore (cd_403 rfl) mt_403 rfl ?_
  refine ey_aload_n (cd_403 rfl) f2 ?_
  obtain ⟨a46, e47, e⟩ := jbind e
  refine ey_rs (s0 := [jR x2]) (s1 := [jR (some a46)]) (by rw [e47]) ?_
  obtain ⟨u48, e49, e⟩ := jbind e
  have w50 := jlk_s e49
  refine ey_rs (s0 := [jR (some a46)]) (s1 := [jR (some 76)]) (by rw [w50.1]) ?_
  refine ey_cv (s0 := [jR (some 76)]) (s1 := []) (st' := [jI (jd_203 (jmf h44))]) (cd_403 rfl) mt_403 mt_203 rfl rfl rfl ⟨Nat.lt_of_lt_of_le (by decide) w50.2.1, w50.2.2.2.1⟩ rfl (jsml_s rfl) rfl (mm_Runs.up (d := 1) (by decide) (by have w := ok_203 (L := L) (xs := xs) (b := h44) (m := jmf h44) w50.2.1 w50.2.2.1 ; rw [w50.2.2.2.2] at w; exact w)) ?_
  refine ey_iload (cd_403 rfl) (jup_pi (lv := (jup lv 5 (jI q25.1))) (j := 5) (v := jI q42.1) (z := q25.1) rfl) ?_
  by_cases q51 : (jw (jd_203 (jmf h44))) = (jw q25.1)
  · rw [if_pos q51] at e
    refine ey_ceq (cd_403 rfl) rfl rfl rfl q51 ?_
    refine ey_iload (cd_403 rfl) (jup_pi (lv := (jup lv 5 (jI q25.1))) (j := 5) (v := jI q42.1) (z := q25.1) rfl) ?_
    by_cases q52 : (jw q25.1) = 0
    · rw [if_pos q52] at e
      refine ey_yne (cd_403 rfl) rfl rfl (fun w => w q52) ?_
      refine ey_aload_n (cd_403 rfl) f3 ?_
      refine ey_iconst (cd_403 rfl) ?_
      obtain ⟨a53, e54, e⟩ := jbind e
      refine ey_rs (s0 := [jI 0, jR x3]) (s1 := [jI 0, jR (some a53)]) (by rw [e54]) ?_
      obtain ⟨v55, e56, e⟩ := jbind e
      refine ey_lald (cd_403 rfl) e56 ?_
      refine ey_iload (cd_403 rfl) rfl ?_
      refine ey_i2l (cd_403 rfl) ?_
      refine ey_lcmp (cd_403 rfl) ?_
      by_cases q57 : (jwl v55) = (jw q42.1)
      · rw [if_pos q57] at e
        refine ey_zeq (cd_403 rfl) rfl rfl ((jlc_eq rfl (jwl_jw _)).mpr q57) ?_
        exact jk_403_b325 e K (jup (jup lv 5 (jI q25.1)) 6 (jI q42.1)) f0 f1 f2 f3 (jup_o rfl (jup_pi (lv := lv) (j := 4) (v := jI q25.1) (z := x4) f4))
      · rw [if_neg q57] at e
        refine ey_yeq (cd_403 rfl) rfl rfl (fun w => q57 ((jlc_eq rfl (jwl_jw _)).mp w)) ?_
        cases e
    · rw [if_neg q52] at e
      refine ey_zne (cd_403 rfl) rfl rfl q52 ?_
      exact jk_403_b325 e K (jup (jup lv 5 (jI q25.1)) 6 (jI q42.1)) f0 f1 f2 f3 (jup_o rfl (jup_pi (lv := lv) (j := 4) (v := jI q25.1) (z := x4) f4))
  · rw [if_neg q51] at e
    refine ey_neq (cd_403 rfl) rfl rfl rfl q51 ?_
    cases e
set_option maxRecDepth 100000 in
theorem jk_403_b457 {L : Nat} {xs : Nat → Int32} {x1 : Option Nat} {x2 : Option Nat} {x3 : Option Nat} {x4 : Int} {h : jH} {o : ((Int × jH) ⊕ jH)} {r : mm_R} (e : jd_403_b457 L xs x1 x2 x3 x4 h = some o) (K : jsm (fun s => (∀ lv : jL, lv 0 = some (jR (some 1000000)) → lv 1 = some (jR x1) → lv 2 = some (jR x2) → lv 3 = some (jR x3) → lv 4 = some (jI s.1) → ey (mm_xt L xs) 72 403 23 lv [] s.2 r)) (fun x => (∀ lv : jL, ey (mm_xt L xs) 72 403 3175 lv [] x r)) o) : ∀ lv : jL, lv 0 = some (jR (some 1000000)) → lv 1 = some (jR x1) → lv 2 = some (jR x2) → lv 3 = some (jR x3) → lv 4 = some (jI x4) → ey (mm_xt L xs) 72 403 457 lv [] h r := by
  intro lv f0 f1 f2 f3 f4
  unfold jd_403_b457 at e
  refine ey_goto (cd_403 rfl) rfl ?_
  exact jk_403_b3169 e K lv f0 f1 f2 f3 f4
set_option maxRecDepth 100000 in
theorem jk_403_b328 {L : Nat} {xs : Nat → Int32} {x1 : Option Nat} {x2 : Option Nat} {x3 : Option Nat} {x4 : Int} {h : jH} {o : ((Int × jH) ⊕ jH)} {r : mm_R} (e : jd_403_b328 L xs x1 x2 x3 x4 h = some o) (K : jsm (fun s => (∀ lv : jL, lv 0 = some (jR (some 1000000)) → lv 1 = some (jR x1) → lv 2 = some (jR x2) → lv 3 = some (jR x3) → lv 4 = some (jI s.1) → ey (mm_xt L xs) 72 403 23 lv [] s.2 r)) (fun x => (∀ lv : jL, ey (mm_xt L xs) 72 403 3175 lv [] x r)) o) : ∀ lv : jL, lv 0 = some (jR (some 1000000)) → lv 1 = some (jR x1) → lv 2 = some (jR x2) → lv 3 = some (jR x3) → lv 4 = some (jI x4) → ey (mm_xt L xs) 72 403 328 lv [] h r := by
  intro lv f0 f1 f2 f3 f4
  unfold jd_403_b328 at e
  refine ey_aload_n (cd_403 rfl) f1 ?_
  refine ey_aload_n (cd_403 rfl) f0 ?_
  refine ey_iload (cd_403 rfl) f4 ?_
  refine ey_iconst (cd_403 rfl) ?_
  refine ey_iadd (cd_403 rfl) ?_
  obtain ⟨v59, e60, e⟩ := jbind e
  refine ey_iasc (cd_403 rfl) e60 ?_
  refine ey_aload_n (cd_403 rfl) f0 ?_
  refine ey_iload (cd_403 rfl) f4 ?_
  refine ey_iconst (cd_403 rfl) ?_
  refine ey_iadd (cd_403 rfl) ?_
  obtain ⟨v61, e62, e⟩ := jbind e
  refine ey_iasc (cd_403 rfl) e62 ?_
  refine ey_aload_n (cd_403 rfl) f0 ?_
  refine ey_iload (cd_403 rfl) f4 ?_
  refine ey_iconst (cd_403 rfl) ?_
  refine ey_iadd (cd_403 rfl) ?_
  obtain ⟨v63, e64, e⟩ := jbind e
  refine ey_iasc (cd_403 rfl) e64 ?_
  refine ey_aload_n (cd_403 rfl) f0 ?_
  refine ey_iload (cd_403 rfl) f4 ?_
  refine ey_iconst (cd_403 rfl) ?_
  refine ey_iadd (cd_403 rfl) ?_
  obtain ⟨v65, e66, e⟩ := jbind e
  refine ey_iasc (cd_403 rfl) e66 ?_
  refine ey_aload_n (cd_403 rfl) f0 ?_
  refine ey_iload (cd_403 rfl) f4 ?_
  refine ey_iconst (cd_403 rfl) ?_
  refine ey_iadd (cd_403 rfl) ?_
  obtain ⟨v67, e68, e⟩ := jbind e
  refine ey_iasc (cd_403 rfl) e68 ?_
  refine ey_aload_n (cd_403 rfl) f0 ?_
  refine ey_iload (cd_403 rfl) f4 ?_
  refine ey_bipush (cd_403 rfl) (by decide) ?_
  refine ey_iadd (cd_403 rfl) ?_
  obtain ⟨v69, e70, e⟩ := jbind e
  refine ey_iasc (cd_403 rfl) e70 ?_
  refine ey_aload_n (cd_403 rfl) f0 ?_
  refine ey_iload (cd_403 rfl) f4 ?_
  refine ey_bipush (cd_403 rfl) (by decide) ?_
  refine ey_iadd (cd_403 rfl) ?_
  obtain ⟨v71, e72, e⟩ := jbind e
  refine ey_iasc (cd_403 rfl) e72 ?_
  refine ey_aload_n (cd_403 rfl) f3 ?_
  obtain ⟨q73, e74, e⟩ := jbind e
  refine ey_cs (s0 := [jR x3, jI v71, jI v69, jI v67, jI v65, jI v63, jI v61, jI v59, jR x1]) (s1 := []) (st' := [jI q73.1]) (cd_403 rfl) mt_403 mt_366 rfl (by decide) rfl rfl (jsml_s rfl) rfl (mm_Runs.up (d := 3) (by decide) (ok_366 e74)) ?_
  refine ey_istore (cd_403 rfl) mt_403 rfl ?_
  refine ey_aload_n (cd_403 rfl) f2 ?_
  refine ey_aload_n (cd_403 rfl) f0 ?_
  refine ey_iload (cd_403 rfl) (jup_pi (lv := lv) (j := 4) (v := jI q73.1) (z := x4) f4) ?_
  refine ey_iconst (cd_403 rfl) ?_
  refine ey_iadd (cd_403 rfl) ?_
  obtain ⟨v75, e76, e⟩ := jbind e
  refine ey_iasc (cd_403 rfl) e76 ?_
  refine ey_aload_n (cd_403 rfl) f0 ?_
  refine ey_iload (cd_403 rfl) (jup_pi (lv := lv) (j := 4) (v := jI q73.1) (z := x4) f4) ?_
  refine ey_iconst (cd_403 rfl) ?_
  refine ey_iadd (cd_403 rfl) ?_
  obtain ⟨v77, e78, e⟩ := jbind e
  refine ey_iasc (cd_403 rfl) e78 ?_
  refine ey_aload_n (cd_403 rfl) f0 ?_
  refine ey_iload (cd_403 rfl) (jup_pi (lv := lv) (j := 4) (v := jI q73.1) (z := x4) f4) ?_
  refine ey_iconst (cd_403 rfl) ?_
  refine ey_iadd (cd_403 rfl) ?_
  obtain ⟨v79, e80, e⟩ := jbind e
  refine ey_iasc (cd_403 rfl) e80 ?_
  refine ey_aload_n (cd_403 rfl) f0 ?_
  refine ey_iload (cd_403 rfl) (jup_pi (lv := lv) (j := 4) (v := jI q73.1) (z := x4) f4) ?_
  refine ey_iconst (cd_403 rfl) ?_
  refine ey_iadd (cd_403 rfl) ?_
  obtain ⟨v81, e82, e⟩ := jbind e
  refine ey_iasc (cd_403 rfl) e82 ?_
  refine ey_aload_n (cd_403 rfl) f0 ?_
  refine ey_iload (cd_403 rfl) (jup_pi (lv := lv) (j := 4) (v := jI q73.1) (z := x4) f4) ?_
  refine ey_iconst (cd_403 rfl) ?_
  refine ey_iadd (cd_403 rfl) ?_
  obtain ⟨v83, e84, e⟩ := jbind e
  refine ey_iasc (cd_403 rfl) e84 ?_
  refine ey_aload_n (cd_403 rfl) f0 ?_
  refine ey_iload (cd_403 rfl) (jup_pi (lv := lv) (j := 4) (v := jI q73.1) (z := x4) f4) ?_
  refine ey_bipush (cd_403 rfl) (by decide) ?_
  refine ey_iadd (cd_403 rfl) ?_
  obtain ⟨v85, e86, e⟩ := jbind e
  refine ey_iasc (cd_403 rfl) e86 ?_
  refine ey_aload_n (cd_403 rfl) f0 ?_
  refine ey_iload (cd_403 rfl) (jup_pi (lv := lv) (j := 4) (v := jI q73.1) (z := x4) f4) ?_
  refine ey_bipush (cd_403 rfl) (by decide) ?_
  refine ey_iadd (cd_403 rfl) ?_
  obtain ⟨v87, e88, e⟩ := jbind e
  refine ey_iasc (cd_403 rfl) e88 ?_
  obtain ⟨a89, e90, e⟩ := jbind e
  refine ey_rs (s0 := [jI v87, jI v85, jI v83, jI v81, jI v79, jI v77, jI v75, jR x2]) (s1 := [jI v87, jI v85, jI v83, jI v81, jI v79, jI v77, jI v75, jR (some a89)]) (by rw [e90]) ?_
  obtain ⟨u91, e92, e⟩ := jbind e
  have w93 := jlk_s e92
  refine ey_rs (s0 := [jI v87, jI v85, jI v83, jI v81, jI v79, jI v77, jI v75, jR (some a89)]) (s1 := [jI v87, jI v85, jI v83, jI v81, jI v79, jI v77, jI v75, jR (some 76)]) (by rw [w93.1]) ?_
  obtain ⟨q94, e95, e⟩ := jbind e
  refine ey_cv (s0 := [jI v87, jI v85, jI v83, jI v81, jI v79, jI v77, jI v75, jR (some 76)]) (s1 := []) (st' := [jI q94.1]) (cd_403 rfl) mt_403 mt_215 rfl rfl rfl ⟨Nat.lt_of_lt_of_le (by decide) w93.2.1, w93.2.2.2.1⟩ rfl (jsml_s rfl) rfl (mm_Runs.up (d := 3) (by decide) (by have w := ok_215 (L := L) (xs := xs) (b := q73.2) (m := jmf q73.2) w93.2.1 w93.2.2.1 e95; rw [w93.2.2.2.2] at w; exact w)) ?_
  obtain ⟨h96, e97, e⟩ := jbind e
  refine ey_hs (Option.some.inj e97) ?_
  refine ey_istore (cd_403 rfl) mt_403 rfl ?_
  refine ey_aload_n (cd_403 rfl) f2 ?_
  obtain ⟨a98, e99, e⟩ := jbind e
  refine ey_rs (s0 := [jR x2]) (s1 := [jR (some a98)]) (by rw [e99]) ?_
  obtain ⟨u100, e101, e⟩ := jbind e
  have w102 := jlk_s e101
  refine ey_rs (s0 := [jR (some a98)]) (s1 := [jR (some 76)]) (by rw [w102.1]) ?_
  refine ey_cv (s0 := [jR (some 76)]) (s1 := []) (st' := [jI (jd_203 (jmf h96))]) (cd_403 rfl) mt_403 mt_203 rfl rfl rfl ⟨Nat.lt_of_lt_of_le (by decide) w102.2.1, w102.2.2.2.1⟩ rfl (jsml_s rfl) rfl (mm_Runs.up (d := 1) (by decide) (by have w := ok_203 (L := L) (xs := xs) (b := h96) (m := jmf h96) w102.2.1 w102.2.2.1 ; rw [w102.2.2.2.2] at w; exact w)) ?_
  refine ey_iload (cd_403 rfl) (jup_pi (lv := (jup lv 5 (jI q73.1))) (j := 5) (v := jI q94.1) (z := q73.1) rfl) ?_
  by_cases q103 : (jw (jd_203 (jmf h96))) = (jw q73.1)
  · rw [if_pos q103] at e
    refine ey_ceq (cd_403 rfl) rfl rfl rfl q103 ?_
    refine ey_iload (cd_403 rfl) (jup_pi (lv := (jup lv 5 (jI q73.1))) (j := 5) (v := jI q94.1) (z := q73.1) rfl) ?_
    by_cases q104 : (jw q73.1) = 0
    · rw [if_pos q104] at e
      refine ey_yne (cd_403 rfl) rfl rfl (fun w => w q104) ?_
      refine ey_aload_n (cd_403 rfl) f3 ?_
      refine ey_iconst (cd_403 rfl) ?_
      obtain ⟨a105, e106, e⟩ := jbind e
      refine ey_rs (s0 := [jI 0, jR x3]) (s1 := [jI 0, jR (some a105)]) (by rw [e106]) ?_
      obtain ⟨v107, e108, e⟩ := jbind e
      refine ey_lald (cd_403 rfl) e108 ?_
      refine ey_iload (cd_403 rfl) rfl ?_
      refine ey_i2l (cd_403 rfl) ?_
      refine ey_lcmp (cd_403 rfl) ?_
      by_cases q109 : (jwl v107) = (jw q94.1)
      · rw [if_pos q109] at e
        refine ey_zeq (cd_403 rfl) rfl rfl ((jlc_eq rfl (jwl_jw _)).mpr q109) ?_
        exact jk_403_b457 e K (jup (jup lv 5 (jI q73.1)) 6 (jI q94.1)) f0 f1 f2 f3 (jup_o rfl (jup_pi (lv := lv) (j := 4) (v := jI q73.1) (z := x4) f4))
      · rw [if_neg q109] at e
        refine ey_yeq (cd_403 rfl) rfl rfl (fun w => q109 ((jlc_eq rfl (jwl_jw _)).mp w)) ?_
        cases e
    · rw [if_neg q104] at e
      refine ey_zne (cd_403 rfl) rfl rfl q104 ?_
      exact jk_403_b457 e K (jup (jup lv 5 (jI q73.1)) 6 (jI q94.1)) f0 f1 f2 f3 (jup_o rfl (jup_pi (lv := lv) (j := 4) (v := jI q73.1) (z := x4) f4))
  · rw [if_neg q103] at e
    refine ey_neq (cd_403 rfl) rfl rfl rfl q103 ?_
    cases e
set_option maxRecDepth 100000 in
theorem jk_403_b460 {L : Nat} {xs : Nat → Int32} {x1 : Option Nat} {x2 : Option Nat} {x3 : Option Nat} {x4 : Int} {h : jH} {o : ((Int × jH) ⊕ jH)} {r : mm_R} (e : jd_403_b460 L xs x1 x2 x3 x4 h = some o) (K : jsm (fun s => (∀ lv : jL, lv 0 = some (jR (some 1000000)) → lv 1 = some (jR x1) → lv 2 = some (jR x2) → lv 3 = some (jR x3) → lv 4 = some (jI s.1) → ey (mm_xt L xs) 72 403 23 lv [] s.2 r)) (fun x => (∀ lv : jL, ey (mm_xt L xs) 72 403 3175 lv [] x r)) o) : ∀ lv : jL, lv 0 = some (jR (some 1000000)) → lv 1 = some (jR x1) → lv 2 = some (jR x2) → lv 3 = some (jR x3) → lv 4 = some (jI x4) → ey (mm_xt L xs) 72 403 460 lv [] h r := by
  intro lv f0 f1 f2 f3 f4
  unfold jd_403_b460 at e
  refine ey_aload_n (cd_403 rfl) f1 ?_
  refine ey_aload_n (cd_403 rfl) f0 ?_
  refine ey_iload (cd_403 rfl) f4 ?_
  refine ey_iconst (cd_403 rfl) ?_
  refine ey_iadd (cd_403 rfl) ?_
  obtain ⟨v111, e112, e⟩ := jbind e
  refine ey_iasc (cd_403 rfl) e112 ?_
  refine ey_aload_n (cd_403 rfl) f0 ?_
  refine ey_iload (cd_403 rfl) f4 ?_
  refine ey_iconst (cd_403 rfl) ?_
  refine ey_iadd (cd_403 rfl) ?_
  obtain ⟨v113, e114, e⟩ := jbind e
  refine ey_iasc (cd_403 rfl) e114 ?_
  refine ey_aload_n (cd_403 rfl) f0 ?_
  refine ey_iload (cd_403 rfl) f4 ?_
  refine ey_iconst (cd_403 rfl) ?_
  refine ey_iadd (cd_403 rfl) ?_
  obtain ⟨v115, e116, e⟩ := jbind e
  refine ey_iasc (cd_403 rfl) e116 ?_
  refine ey_i2l (cd_403 rfl) ?_
  refine ey_bipush (cd_403 rfl) (by decide) ?_
  refine ey_lshl (cd_403 rfl) ?_
  refine ey_aload_n (cd_403 rfl) f0 ?_
  refine ey_iload (cd_403 rfl) f4 ?_
  refine ey_iconst (cd_403 rfl) ?_
  refine ey_iadd (cd_403 rfl) ?_
  obtain ⟨v117, e118, e⟩ := jbind e
  refine ey_iasc (cd_403 rfl) e118 ?_
  refine ey_i2l (cd_403 rfl) ?_
  refine ey_ldc2 (z := 4294967295) (cd_403 rfl) mt_403 rfl (by decide) ?_
  refine ey_land (cd_403 rfl) ?_
  refine ey_lor (cd_403 rfl) ?_
  refine ey_aload_n (cd_403 rfl) f0 ?_
  refine ey_iload (cd_403 rfl) f4 ?_
  refine ey_iconst (cd_403 rfl) ?_
  refine ey_iadd (cd_403 rfl) ?_
  obtain ⟨v119, e120, e⟩ := jbind e
  refine ey_iasc (cd_403 rfl) e120 ?_
  obtain ⟨q121, e122, e⟩ := jbind e
  refine ey_cs (s0 := [jI v119, jJ (jlor (jlshl (jw v115) 32) (jland (jw v117) 4294967295)), jI v113, jI v111, jR x1]) (s1 := []) (st' := [jI q121.1]) (cd_403 rfl) mt_403 mt_367 rfl (by decide) rfl rfl (jsml_s rfl) rfl (mm_Runs.up (d := 3) (by decide) (ok_367 e122)) ?_
  refine ey_istore (cd_403 rfl) mt_403 rfl ?_
  refine ey_aload_n (cd_403 rfl) f2 ?_
  refine ey_aload_n (cd_403 rfl) f0 ?_
  refine ey_iload (cd_403 rfl) (jup_pi (lv := lv) (j := 4) (v := jI q121.1) (z := x4) f4) ?_
  refine ey_iconst (cd_403 rfl) ?_
  refine ey_iadd (cd_403 rfl) ?_
  obtain ⟨v123, e124, e⟩ := jbind e
  refine ey_iasc (cd_403 rfl) e124 ?_
  refine ey_aload_n (cd_403 rfl) f0 ?_
  refine ey_iload (cd_403 rfl) (jup_pi (lv := lv) (j := 4) (v := jI q121.1) (z := x4) f4) ?_
  refine ey_iconst (cd_403 rfl) ?_
  refine ey_iadd (cd_403 rfl) ?_
  obtain ⟨v125, e126, e⟩ := jbind e
  refine ey_iasc (cd_403 rfl) e126 ?_
  refine ey_aload_n (cd_403 rfl) f0 ?_
  refine ey_iload (cd_403 rfl) (jup_pi (lv := lv) (j := 4) (v := jI q121.1) (z := x4) f4) ?_
  refine ey_iconst (cd_403 rfl) ?_
  refine ey_iadd (cd_403 rfl) ?_
  obtain ⟨v127, e128, e⟩ := jbind e
  refine ey_iasc (cd_403 rfl) e128 ?_
  refine ey_i2l (cd_403 rfl) ?_
  refine ey_bipush (cd_403 rfl) (by decide) ?_
  refine ey_lshl (cd_403 rfl) ?_
  refine ey_aload_n (cd_403 rfl) f0 ?_
  refine ey_iload (cd_403 rfl) (jup_pi (lv := lv) (j := 4) (v := jI q121.1) (z := x4) f4) ?_
  refine ey_iconst (cd_403 rfl) ?_
  refine ey_iadd (cd_403 rfl) ?_
  obtain ⟨v129, e130, e⟩ := jbind e
  refine ey_iasc (cd_403 rfl) e130 ?_
  refine ey_i2l (cd_403 rfl) ?_
  refine ey_ldc2 (z := 4294967295) (cd_403 rfl) mt_403 rfl (by decide) ?_
  refine ey_land (cd_403 rfl) ?_
  refine ey_lor (cd_403 rfl) ?_
  refine ey_aload_n (cd_403 rfl) f0 ?_
  refine ey_iload (cd_403 rfl) (jup_pi (lv := lv) (j := 4) (v := jI q121.1) (z := x4) f4) ?_
  refine ey_iconst (cd_403 rfl) ?_
  refine ey_iadd (cd_403 rfl) ?_
  obtain ⟨v131, e132, e⟩ := jbind e
  refine ey_iasc (cd_403 rfl) e132 ?_
  obtain ⟨a133, e134, e⟩ := jbind e
  refine ey_rs (s0 := [jI v131, jJ (jlor (jlshl (jw v127) 32) (jland (jw v129) 4294967295)), jI v125, jI v123, jR x2]) (s1 := [jI v131, jJ (jlor (jlshl (jw v127) 32) (jland (jw v129) 4294967295)), jI v125, jI v123, jR (some a133)]) (by rw [e134]) ?_
  obtain ⟨u135, e136, e⟩ := jbind e
  have w137 := jlk_s e136
  refine ey_rs (s0 := [jI v131, jJ (jlor (jlshl (jw v127) 32) (jland (jw v129) 4294967295)), jI v125, jI v123, jR (some a133)]) (s1 := [jI v131, jJ (jlor (jlshl (jw v127) 32) (jland (jw v129) 4294967295)), jI v125, jI v123, jR (some 76)]) (by rw [w137.1]) ?_
  obtain ⟨m138, e139, e⟩ := jbind e
  refine ey_cv (s0 := [jI v131, jJ (jlor (jlshl (jw v127) 32) (jland (jw v129) 4294967295)), jI v125, jI v123, jR (some 76)]) (s1 := []) (st' := []) (cd_403 rfl) mt_403 mt_216 rfl rfl rfl ⟨Nat.lt_of_lt_of_le (by decide) w137.2.1, w137.2.2.2.1⟩ rfl (jsml_s rfl) rfl (mm_Runs.up (d := 3) (by decide) (by have w := ok_216 (L := L) (xs := xs) (b := q121.2) (m := jmf q121.2) w137.2.1 w137.2.2.1 e139; rw [w137.2.2.2.2] at w; exact w)) ?_
  obtain ⟨h140, e141, e⟩ := jbind e
  refine ey_hs (Option.some.inj e141) ?_
  refine ey_aload_n (cd_403 rfl) f2 ?_
  obtain ⟨a142, e143, e⟩ := jbind e
  refine ey_rs (s0 := [jR x2]) (s1 := [jR (some a142)]) (by rw [e143]) ?_
  obtain ⟨u144, e145, e⟩ := jbind e
  have w146 := jlk_s e145
  refine ey_rs (s0 := [jR (some a142)]) (s1 := [jR (some 76)]) (by rw [w146.1]) ?_
  refine ey_cv (s0 := [jR (some 76)]) (s1 := []) (st' := [jI (jd_203 (jmf h140))]) (cd_403 rfl) mt_403 mt_203 rfl rfl rfl ⟨Nat.lt_of_lt_of_le (by decide) w146.2.1, w146.2.2.2.1⟩ rfl (jsml_s rfl) rfl (mm_Runs.up (d := 1) (by decide) (by have w := ok_203 (L := L) (xs := xs) (b := h140) (m := jmf h140) w146.2.1 w146.2.2.1 ; rw [w146.2.2.2.2] at w; exact w)) ?_
  refine ey_iload (cd_403 rfl) rfl ?_
  by_cases q147 : (jw (jd_203 (jmf h140))) = (jw q121.1)
  · rw [if_pos q147] at e
    refine ey_ceq (cd_403 rfl) rfl rfl rfl q147 ?_
    refine ey_goto (cd_403 rfl) rfl ?_
    exact jk_403_b3169 e K (jup lv 5 (jI q121.1)) f0 f1 f2 f3 (jup_pi (lv := lv) (j := 4) (v := jI q121.1) (z := x4) f4)
  · rw [if_neg q147] at e
    refine ey_neq (cd_403 rfl) rfl rfl rfl q147 ?_
    cases e
set_option maxRecDepth 100000 in
theorem jk_403_b641 {L : Nat} {xs : Nat → Int32} {x1 : Option Nat} {x2 : Option Nat} {x3 : Option Nat} {x4 : Int} {h : jH} {o : ((Int × jH) ⊕ jH)} {r : mm_R} (e : jd_403_b641 L xs x1 x2 x3 x4 h = some o) (K : jsm (fun s => (∀ lv : jL, lv 0 = some (jR (some 1000000)) → lv 1 = some (jR x1) → lv 2 = some (jR x2) → lv 3 = some (jR x3) → lv 4 = some (jI s.1) → ey (mm_xt L xs) 72 403 23 lv [] s.2 r)) (fun x => (∀ lv : jL, ey (mm_xt L xs) 72 403 3175 lv [] x r)) o) : ∀ lv : jL, lv 0 = some (jR (some 1000000)) → lv 1 = some (jR x1) → lv 2 = some (jR x2) → lv 3 = some (jR x3) → lv 4 = some (jI x4) → ey (mm_xt L xs) 72 403 641 lv [] h r := by
  intro lv f0 f1 f2 f3 f4
  unfold jd_403_b641 at e
  refine ey_goto (cd_403 rfl) rfl ?_
  exact jk_403_b3169 e K lv f0 f1 f2 f3 f4
set_option maxRecDepth 100000 in
theorem jk_403_b564 {L : Nat} {xs : Nat → Int32} {x1 : Option Nat} {x2 : Option Nat} {x3 : Option Nat} {x4 : Int} {h : jH} {o : ((Int × jH) ⊕ jH)} {r : mm_R} (e : jd_403_b564 L xs x1 x2 x3 x4 h = some o) (K : jsm (fun s => (∀ lv : jL, lv 0 = some (jR (some 1000000)) → lv 1 = some (jR x1) → lv 2 = some (jR x2) → lv 3 = some (jR x3) → lv 4 = some (jI s.1) → ey (mm_xt L xs) 72 403 23 lv [] s.2 r)) (fun x => (∀ lv : jL, ey (mm_xt L xs) 72 403 3175 lv [] x r)) o) : ∀ lv : jL, lv 0 = some (jR (some 1000000)) → lv 1 = some (jR x1) → lv 2 = some (jR x2) → lv 3 = some (jR x3) → lv 4 = some (jI x4) → ey (mm_xt L xs) 72 403 564 lv [] h r := by
  intro lv f0 f1 f2 f3 f4
  unfold jd_403_b564 at e
  refine ey_aload_n (cd_403 rfl) f1 ?_
  refine ey_aload_n (cd_403 rfl) f0 ?_
  refine ey_iload (cd_403 rfl) f4 ?_
  refine ey_iconst (cd_403 rfl) ?_
  refine ey_iadd (cd_403 rfl) ?_
  obtain ⟨v149, e150, e⟩ := jbind e
  refine ey_iasc (cd_403 rfl) e150 ?_
  refine ey_aload_n (cd_403 rfl) f0 ?_
  refine ey_iload (cd_403 rfl) f4 ?_
  refine ey_iconst (cd_403 rfl) ?_
  refine ey_iadd (cd_403 rfl) ?_
  obtain ⟨v151, e152, e⟩ := jbind e
  refine ey_iasc (cd_403 rfl) e152 ?_
  refine ey_aload_n (cd_403 rfl) f0 ?_
  refine ey_iload (cd_403 rfl) f4 ?_
  refine ey_iconst (cd_403 rfl) ?_
  refine ey_iadd (cd_403 rfl) ?_
  obtain ⟨v153, e154, e⟩ := jbind e
  refine ey_iasc (cd_403 rfl) e154 ?_
  refine ey_aload_n (cd_403 rfl) f3 ?_
  obtain ⟨q155, e156, e⟩ := jbind e
  refine ey_cs (s0 := [jR x3, jI v153, jI v151, jI v149, jR x1]) (s1 := []) (st' := [jI q155.1]) (cd_403 rfl) mt_403 mt_368 rfl (by decide) rfl rfl (jsml_s rfl) rfl (mm_Runs.up (d := 4) (by decide) (ok_368 e156)) ?_
  refine ey_istore (cd_403 rfl) mt_403 rfl ?_
  refine ey_aload_n (cd_403 rfl) f2 ?_
  refine ey_aload_n (cd_403 rfl) f0 ?_
  refine ey_iload (cd_403 rfl) (jup_pi (lv := lv) (j := 4) (v := jI q155.1) (z := x4) f4) ?_
  refine ey_iconst (cd_403 rfl) ?_
  refine ey_iadd (cd_403 rfl) ?_
  obtain ⟨v157, e158, e⟩ := jbind e
  refine ey_iasc (cd_403 rfl) e158 ?_
  refine ey_aload_n (cd_403 rfl) f0 ?_
  refine ey_iload (cd_403 rfl) (jup_pi (lv := lv) (j := 4) (v := jI q155.1) (z := x4) f4) ?_
  refine ey_iconst (cd_403 rfl) ?_
  refine ey_iadd (cd_403 rfl) ?_
  obtain ⟨v159, e160, e⟩ := jbind e
  refine ey_iasc (cd_403 rfl) e160 ?_
  refine ey_aload_n (cd_403 rfl) f0 ?_
  refine ey_iload (cd_403 rfl) (jup_pi (lv := lv) (j := 4) (v := jI q155.1) (z := x4) f4) ?_
  refine ey_iconst (cd_403 rfl) ?_
  refine ey_iadd (cd_403 rfl) ?_
  obtain ⟨v161, e162, e⟩ := jbind e
  refine ey_iasc (cd_403 rfl) e162 ?_
  obtain ⟨a163, e164, e⟩ := jbind e
  refine ey_rs (s0 := [jI v161, jI v159, jI v157, jR x2]) (s1 := [jI v161, jI v159, jI v157, jR (some a163)]) (by rw [e164]) ?_
  obtain ⟨u165, e166, e⟩ := jbind e
  have w167 := jlk_s e166
  refine ey_rs (s0 := [jI v161, jI v159, jI v157, jR (some a163)]) (s1 := [jI v161, jI v159, jI v157, jR (some 76)]) (by rw [w167.1]) ?_
  obtain ⟨q168, e169, e⟩ := jbind e
  refine ey_cv (s0 := [jI v161, jI v159, jI v157, jR (some 76)]) (s1 := []) (st' := [jI q168.1]) (cd_403 rfl) mt_403 mt_217 rfl rfl rfl ⟨Nat.lt_of_lt_of_le (by decide) w167.2.1, w167.2.2.2.1⟩ rfl (jsml_s rfl) rfl (mm_Runs.up (d := 3) (by decide) (by have w := ok_217 (L := L) (xs := xs) (b := q155.2) (m := jmf q155.2) w167.2.1 w167.2.2.1 e169; rw [w167.2.2.2.2] at w; exact w)) ?_
  obtain ⟨h170, e171, e⟩ := jbind e
  refine ey_hs (Option.some.inj e171) ?_
  refine ey_istore (cd_403 rfl) mt_403 rfl ?_
  refine ey_aload_n (cd_403 rfl) f2 ?_
  obtain ⟨a172, e173, e⟩ := jbind e
  refine ey_rs (s0 := [jR x2]) (s1 := [jR (some a172)]) (by rw [e173]) ?_
  obtain ⟨u174, e175, e⟩ := jbind e
  have w176 := jlk_s e175
  refine ey_rs (s0 := [jR (some a172)]) (s1 := [jR (some 76)]) (by rw [w176.1]) ?_
  refine ey_cv (s0 := [jR (some 76)]) (s1 := []) (st' := [jI (jd_203 (jmf h170))]) (cd_403 rfl) mt_403 mt_203 rfl rfl rfl ⟨Nat.lt_of_lt_of_le (by decide) w176.2.1, w176.2.2.2.1⟩ rfl (jsml_s rfl) rfl (mm_Runs.up (d := 1) (by decide) (by have w := ok_203 (L := L) (xs := xs) (b := h170) (m := jmf h170) w176.2.1 w176.2.2.1 ; rw [w176.2.2.2.2] at w; exact w)) ?_
  refine ey_iload (cd_403 rfl) (jup_pi (lv := (jup lv 5 (jI q155.1))) (j := 5) (v := jI q168.1) (z := q155.1) rfl) ?_
  by_cases q177 : (jw (jd_203 (jmf h170))) = (jw q155.1)
  · rw [if_pos q177] at e
    refine ey_ceq (cd_403 rfl) rfl rfl rfl q177 ?_
    refine ey_iload (cd_403 rfl) (jup_pi (lv := (jup lv 5 (jI q155.1))) (j := 5) (v := jI q168.1) (z := q155.1) rfl) ?_
    by_cases q178 : (jw q155.1) = 0
    · rw [if_pos q178] at e
      refine ey_yne (cd_403 rfl) rfl rfl (fun w => w q178) ?_
      refine ey_aload_n (cd_403 rfl) f3 ?_
      refine ey_iconst (cd_403 rfl) ?_
      obtain ⟨a179, e180, e⟩ := jbind e
      refine ey_rs (s0 := [jI 0, jR x3]) (s1 := [jI 0, jR (some a179)]) (by rw [e180]) ?_
      obtain ⟨v181, e182, e⟩ := jbind e
      refine ey_lald (cd_403 rfl) e182 ?_
      refine ey_iload (cd_403 rfl) rfl ?_
      refine ey_i2l (cd_403 rfl) ?_
      refine ey_lcmp (cd_403 rfl) ?_
      by_cases q183 : (jwl v181) = (jw q168.1)
      · rw [if_pos q183] at e
        refine ey_zeq (cd_403 rfl) rfl rfl ((jlc_eq rfl (jwl_jw _)).mpr q183) ?_
        exact jk_403_b641 e K (jup (jup lv 5 (jI q155.1)) 6 (jI q168.1)) f0 f1 f2 f3 (jup_o rfl (jup_pi (lv := lv) (j := 4) (v := jI q155.1) (z := x4) f4))
      · rw [if_neg q183] at e
        refine ey_yeq (cd_403 rfl) rfl rfl (fun w => q183 ((jlc_eq rfl (jwl_jw _)).mp w)) ?_
        cases e
    · rw [if_neg q178] at e
      refine ey_zne (cd_403 rfl) rfl rfl q178 ?_
      exact jk_403_b641 e K (jup (jup lv 5 (jI q155.1)) 6 (jI q168.1)) f0 f1 f2 f3 (jup_o rfl (jup_pi (lv := lv) (j := 4) (v := jI q155.1) (z := x4) f4))
  · rw [if_neg q177] at e
    refine ey_neq (cd_403 rfl) rfl rfl rfl q177 ?_
    cases e
set_option maxRecDepth 100000 in
theorem jk_403_b745 {L : Nat} {xs : Nat → Int32} {x1 : Option Nat} {x2 : Option Nat} {x3 : Option Nat} {x4 : Int} {h : jH} {o : ((Int × jH) ⊕ jH)} {r : mm_R} (e : jd_403_b745 L xs x1 x2 x3 x4 h = some o) (K : jsm (fun s => (∀ lv : jL, lv 0 = some (jR (some 1000000)) → lv 1 = some (jR x1) → lv 2 = some (jR x2) → lv 3 = some (jR x3) → lv 4 = some (jI s.1) → ey (mm_xt L xs) 72 403 23 lv [] s.2 r)) (fun x => (∀ lv : jL, ey (mm_xt L xs) 72 403 3175 lv [] x r)) o) : ∀ lv : jL, lv 0 = some (jR (some 1000000)) → lv 1 = some (jR x1) → lv 2 = some (jR x2) → lv 3 = some (jR x3) → lv 4 = some (jI x4) → ey (mm_xt L xs) 72 403 745 lv [] h r := by
  intro lv f0 f1 f2 f3 f4
  unfold jd_403_b745 at e
  refine ey_goto (cd_403 rfl) rfl ?_
  exact jk_403_b3169 e K lv f0 f1 f2 f3 f4
set_option maxRecDepth 100000 in
theorem jk_403_b644 {L : Nat} {xs : Nat → Int32} {x1 : Option Nat} {x2 : Option Nat} {x3 : Option Nat} {x4 : Int} {h : jH} {o : ((Int × jH) ⊕ jH)} {r : mm_R} (e : jd_403_b644 L xs x1 x2 x3 x4 h = some o) (K : jsm (fun s => (∀ lv : jL, lv 0 = some (jR (some 1000000)) → lv 1 = some (jR x1) → lv 2 = some (jR x2) → lv 3 = some (jR x3) → lv 4 = some (jI s.1) → ey (mm_xt L xs) 72 403 23 lv [] s.2 r)) (fun x => (∀ lv : jL, ey (mm_xt L xs) 72 403 3175 lv [] x r)) o) : ∀ lv : jL, lv 0 = some (jR (some 1000000)) → lv 1 = some (jR x1) → lv 2 = some (jR x2) → lv 3 = some (jR x3) → lv 4 = some (jI x4) → ey (mm_xt L xs) 72 403 644 lv [] h r := by
  intro lv f0 f1 f2 f3 f4
  unfold jd_403_b644 at e
  refine ey_aload_n (cd_403 rfl) f1 ?_
  refine ey_aload_n (cd_403 rfl) f0 ?_
  refine ey_iload (cd_403 rfl) f4 ?_
  refine ey_iconst (cd_403 rfl) ?_
  refine ey_iadd (cd_403 rfl) ?_
  obtain ⟨v185, e186, e⟩ := jbind e
  refine ey_iasc (cd_403 rfl) e186 ?_
  refine ey_aload_n (cd_403 rfl) f0 ?_
  refine ey_iload (cd_403 rfl) f4 ?_
  refine ey_iconst (cd_403 rfl) ?_
  refine ey_iadd (cd_403 rfl) ?_
  obtain ⟨v187, e188, e⟩ := jbind e
  refine ey_iasc (cd_403 rfl) e188 ?_
  refine ey_aload_n (cd_403 rfl) f0 ?_
  refine ey_iload (cd_403 rfl) f4 ?_
  refine ey_iconst (cd_403 rfl) ?_
  refine ey_iadd (cd_403 rfl) ?_
  obtain ⟨v189, e190, e⟩ := jbind e
  refine ey_iasc (cd_403 rfl) e190 ?_
  refine ey_aload_n (cd_403 rfl) f0 ?_
  refine ey_iload (cd_403 rfl) f4 ?_
  refine ey_iconst (cd_403 rfl) ?_
  refine ey_iadd (cd_403 rfl) ?_
  obtain ⟨v191, e192, e⟩ := jbind e
  refine ey_iasc (cd_403 rfl) e192 ?_
  refine ey_aload_n (cd_403 rfl) f0 ?_
  refine ey_iload (cd_403 rfl) f4 ?_
  refine ey_iconst (cd_403 rfl) ?_
  refine ey_iadd (cd_403 rfl) ?_
  obtain ⟨v193, e194, e⟩ := jbind e
  refine ey_iasc (cd_403 rfl) e194 ?_
  refine ey_aload_n (cd_403 rfl) f3 ?_
  obtain ⟨q195, e196, e⟩ := jbind e
  refine ey_cs (s0 := [jR x3, jI v193, jI v191, jI v189, jI v187, jI v185, jR x1]) (s1 := []) (st' := [jI q195.1]) (cd_403 rfl) mt_403 mt_369 rfl (by decide) rfl rfl (jsml_s rfl) rfl (mm_Runs.up (d := 4) (by decide) (ok_369 e196)) ?_
  refine ey_istore (cd_403 rfl) mt_403 rfl ?_
  refine ey_aload_n (cd_403 rfl) f2 ?_
  refine ey_aload_n (cd_403 rfl) f0 ?_
  refine ey_iload (cd_403 rfl) (jup_pi (lv := lv) (j := 4) (v := jI q195.1) (z := x4) f4) ?_
  refine ey_iconst (cd_403 rfl) ?_
  refine ey_iadd (cd_403 rfl) ?_
  obtain ⟨v197, e198, e⟩ := jbind e
  refine ey_iasc (cd_403 rfl) e198 ?_
  refine ey_aload_n (cd_403 rfl) f0 ?_
  refine ey_iload (cd_403 rfl) (jup_pi (lv := lv) (j := 4) (v := jI q195.1) (z := x4) f4) ?_
  refine ey_iconst (cd_403 rfl) ?_
  refine ey_iadd (cd_403 rfl) ?_
  obtain ⟨v199, e200, e⟩ := jbind e
  refine ey_iasc (cd_403 rfl) e200 ?_
  refine ey_aload_n (cd_403 rfl) f0 ?_
  refine ey_iload (cd_403 rfl) (jup_pi (lv := lv) (j := 4) (v := jI q195.1) (z := x4) f4) ?_
  refine ey_iconst (cd_403 rfl) ?_
  refine ey_iadd (cd_403 rfl) ?_
  obtain ⟨v201, e202, e⟩ := jbind e
  refine ey_iasc (cd_403 rfl) e202 ?_
  refine ey_aload_n (cd_403 rfl) f0 ?_
  refine ey_iload (cd_403 rfl) (jup_pi (lv := lv) (j := 4) (v := jI q195.1) (z := x4) f4) ?_
  refine ey_iconst (cd_403 rfl) ?_
  refine ey_iadd (cd_403 rfl) ?_
  obtain ⟨v203, e204, e⟩ := jbind e
  refine ey_iasc (cd_403 rfl) e204 ?_
  refine ey_aload_n (cd_403 rfl) f0 ?_
  refine ey_iload (cd_403 rfl) (jup_pi (lv := lv) (j := 4) (v := jI q195.1) (z := x4) f4) ?_
  refine ey_iconst (cd_403 rfl) ?_
  refine ey_iadd (cd_403 rfl) ?_
  obtain ⟨v205, e206, e⟩ := jbind e
  refine ey_iasc (cd_403 rfl) e206 ?_
  obtain ⟨a207, e208, e⟩ := jbind e
  refine ey_rs (s0 := [jI v205, jI v203, jI v201, jI v199, jI v197, jR x2]) (s1 := [jI v205, jI v203, jI v201, jI v199, jI v197, jR (some a207)]) (by rw [e208]) ?_
  obtain ⟨u209, e210, e⟩ := jbind e
  have w211 := jlk_s e210
  refine ey_rs (s0 := [jI v205, jI v203, jI v201, jI v199, jI v197, jR (some a207)]) (s1 := [jI v205, jI v203, jI v201, jI v199, jI v197, jR (some 76)]) (by rw [w211.1]) ?_
  obtain ⟨q212, e213, e⟩ := jbind e
  refine ey_cv (s0 := [jI v205, jI v203, jI v201, jI v199, jI v197, jR (some 76)]) (s1 := []) (st' := [jI q212.1]) (cd_403 rfl) mt_403 mt_219 rfl rfl rfl ⟨Nat.lt_of_lt_of_le (by decide) w211.2.1, w211.2.2.2.1⟩ rfl (jsml_s rfl) rfl (mm_Runs.up (d := 4) (by decide) (by have w := ok_219 (L := L) (xs := xs) (b := q195.2) (m := jmf q195.2) w211.2.1 w211.2.2.1 e213; rw [w211.2.2.2.2] at w; exact w)) ?_
  obtain ⟨h214, e215, e⟩ := jbind e
  refine ey_hs (Option.some.inj e215) ?_
  refine ey_istore (cd_403 rfl) mt_403 rfl ?_
  refine ey_aload_n (cd_403 rfl) f2 ?_
  obtain ⟨a216, e217, e⟩ := jbind e
  refine ey_rs (s0 := [jR x2]) (s1 := [jR (some a216)]) (by rw [e217]) ?_
  obtain ⟨u218, e219, e⟩ := jbind e
  have w220 := jlk_s e219
  refine ey_rs (s0 := [jR (some a216)]) (s1 := [jR (some 76)]) (by rw [w220.1]) ?_
  refine ey_cv (s0 := [jR (some 76)]) (s1 := []) (st' := [jI (jd_203 (jmf h214))]) (cd_403 rfl) mt_403 mt_203 rfl rfl rfl ⟨Nat.lt_of_lt_of_le (by decide) w220.2.1, w220.2.2.2.1⟩ rfl (jsml_s rfl) rfl (mm_Runs.up (d := 1) (by decide) (by have w := ok_203 (L := L) (xs := xs) (b := h214) (m := jmf h214) w220.2.1 w220.2.2.1 ; rw [w220.2.2.2.2] at w; exact w)) ?_
  refine ey_iload (cd_403 rfl) (jup_pi (lv := (jup lv 5 (jI q195.1))) (j := 5) (v := jI q212.1) (z := q195.1) rfl) ?_
  by_cases q221 : (jw (jd_203 (jmf h214))) = (jw q195.1)
  · rw [if_pos q221] at e
    refine ey_ceq (cd_403 rfl) rfl rfl rfl q221 ?_
    refine ey_iload (cd_403 rfl) (jup_pi (lv := (jup lv 5 (jI q195.1))) (j := 5) (v := jI q212.1) (z := q195.1) rfl) ?_
    by_cases q222 : (jw q195.1) = 0
    · rw [if_pos q222] at e
      refine ey_yne (cd_403 rfl) rfl rfl (fun w => w q222) ?_
      refine ey_aload_n (cd_403 rfl) f3 ?_
      refine ey_iconst (cd_403 rfl) ?_
      obtain ⟨a223, e224, e⟩ := jbind e
      refine ey_rs (s0 := [jI 0, jR x3]) (s1 := [jI 0, jR (some a223)]) (by rw [e224]) ?_
      obtain ⟨v225, e226, e⟩ := jbind e
      refine ey_lald (cd_403 rfl) e226 ?_
      refine ey_iload (cd_403 rfl) rfl ?_
      refine ey_i2l (cd_403 rfl) ?_
      refine ey_lcmp (cd_403 rfl) ?_
      by_cases q227 : (jwl v225) = (jw q212.1)
      · rw [if_pos q227] at e
        refine ey_zeq (cd_403 rfl) rfl rfl ((jlc_eq rfl (jwl_jw _)).mpr q227) ?_
        exact jk_403_b745 e K (jup (jup lv 5 (jI q195.1)) 6 (jI q212.1)) f0 f1 f2 f3 (jup_o rfl (jup_pi (lv := lv) (j := 4) (v := jI q195.1) (z := x4) f4))
      · rw [if_neg q227] at e
        refine ey_yeq (cd_403 rfl) rfl rfl (fun w => q227 ((jlc_eq rfl (jwl_jw _)).mp w)) ?_
        cases e
    · rw [if_neg q222] at e
      refine ey_zne (cd_403 rfl) rfl rfl q222 ?_
      exact jk_403_b745 e K (jup (jup lv 5 (jI q195.1)) 6 (jI q212.1)) f0 f1 f2 f3 (jup_o rfl (jup_pi (lv := lv) (j := 4) (v := jI q195.1) (z := x4) f4))
  · rw [if_neg q221] at e
    refine ey_neq (cd_403 rfl) rfl rfl rfl q221 ?_
    cases e
set_option maxRecDepth 100000 in
theorem jk_403_b837 {L : Nat} {xs : Nat → Int32} {x1 : Option Nat} {x2 : Option Nat} {x3 : Option Nat} {x4 : Int} {h : jH} {o : ((Int × jH) ⊕ jH)} {r : mm_R} (e : jd_403_b837 L xs x1 x2 x3 x4 h = some o) (K : jsm (fun s => (∀ lv : jL, lv 0 = some (jR (some 1000000)) → lv 1 = some (jR x1) → lv 2 = some (jR x2) → lv 3 = some (jR x3) → lv 4 = some (jI s.1) → ey (mm_xt L xs) 72 403 23 lv [] s.2 r)) (fun x => (∀ lv : jL, ey (mm_xt L xs) 72 403 3175 lv [] x r)) o) : ∀ lv : jL, lv 0 = some (jR (some 1000000)) → lv 1 = some (jR x1) → lv 2 = some (jR x2) → lv 3 = some (jR x3) → lv 4 = some (jI x4) → ey (mm_xt L xs) 72 403 837 lv [] h r := by
  intro lv f0 f1 f2 f3 f4
  unfold jd_403_b837 at e
  refine ey_goto (cd_403 rfl) rfl ?_
  exact jk_403_b3169 e K lv f0 f1 f2 f3 f4
set_option maxRecDepth 100000 in
theorem jk_403_b748 {L : Nat} {xs : Nat → Int32} {x1 : Option Nat} {x2 : Option Nat} {x3 : Option Nat} {x4 : Int} {h : jH} {o : ((Int × jH) ⊕ jH)} {r : mm_R} (e : jd_403_b748 L xs x1 x2 x3 x4 h = some o) (K : jsm (fun s => (∀ lv : jL, lv 0 = some (jR (some 1000000)) → lv 1 = some (jR x1) → lv 2 = some (jR x2) → lv 3 = some (jR x3) → lv 4 = some (jI s.1) → ey (mm_xt L xs) 72 403 23 lv [] s.2 r)) (fun x => (∀ lv : jL, ey (mm_xt L xs) 72 403 3175 lv [] x r)) o) : ∀ lv : jL, lv 0 = some (jR (some 1000000)) → lv 1 = some (jR x1) → lv 2 = some (jR x2) → lv 3 = some (jR x3) → lv 4 = some (jI x4) → ey (mm_xt L xs) 72 403 748 lv [] h r := by
  intro lv f0 f1 f2 f3 f4
  unfold jd_403_b748 at e
  refine ey_aload_n (cd_403 rfl) f1 ?_
  refine ey_aload_n (cd_403 rfl) f0 ?_
  refine ey_iload (cd_403 rfl) f4 ?_
  refine ey_iconst (cd_403 rfl) ?_
  refine ey_iadd (cd_403 rfl) ?_
  obtain ⟨v229, e230, e⟩ := jbind e
  refine ey_iasc (cd_403 rfl) e230 ?_
  refine ey_aload_n (cd_403 rfl) f0 ?_
  refine ey_iload (cd_403 rfl) f4 ?_
  refine ey_iconst (cd_403 rfl) ?_
  refine ey_iadd (cd_403 rfl) ?_
  obtain ⟨v231, e232, e⟩ := jbind e
  refine ey_iasc (cd_403 rfl) e232 ?_
  refine ey_aload_n (cd_403 rfl) f0 ?_
  refine ey_iload (cd_403 rfl) f4 ?_
  refine ey_iconst (cd_403 rfl) ?_
  refine ey_iadd (cd_403 rfl) ?_
  obtain ⟨v233, e234, e⟩ := jbind e
  refine ey_iasc (cd_403 rfl) e234 ?_
  refine ey_aload_n (cd_403 rfl) f0 ?_
  refine ey_iload (cd_403 rfl) f4 ?_
  refine ey_iconst (cd_403 rfl) ?_
  refine ey_iadd (cd_403 rfl) ?_
  obtain ⟨v235, e236, e⟩ := jbind e
  refine ey_iasc (cd_403 rfl) e236 ?_
  refine ey_aload_n (cd_403 rfl) f3 ?_
  obtain ⟨q237, e238, e⟩ := jbind e
  refine ey_cs (s0 := [jR x3, jI v235, jI v233, jI v231, jI v229, jR x1]) (s1 := []) (st' := [jI q237.1]) (cd_403 rfl) mt_403 mt_370 rfl (by decide) rfl rfl (jsml_s rfl) rfl (mm_Runs.up (d := 4) (by decide) (ok_370 e238)) ?_
  refine ey_istore (cd_403 rfl) mt_403 rfl ?_
  refine ey_aload_n (cd_403 rfl) f2 ?_
  refine ey_aload_n (cd_403 rfl) f0 ?_
  refine ey_iload (cd_403 rfl) (jup_pi (lv := lv) (j := 4) (v := jI q237.1) (z := x4) f4) ?_
  refine ey_iconst (cd_403 rfl) ?_
  refine ey_iadd (cd_403 rfl) ?_
  obtain ⟨v239, e240, e⟩ := jbind e
  refine ey_iasc (cd_403 rfl) e240 ?_
  refine ey_aload_n (cd_403 rfl) f0 ?_
  refine ey_iload (cd_403 rfl) (jup_pi (lv := lv) (j := 4) (v := jI q237.1) (z := x4) f4) ?_
  refine ey_iconst (cd_403 rfl) ?_
  refine ey_iadd (cd_403 rfl) ?_
  obtain ⟨v241, e242, e⟩ := jbind e
  refine ey_iasc (cd_403 rfl) e242 ?_
  refine ey_aload_n (cd_403 rfl) f0 ?_
  refine ey_iload (cd_403 rfl) (jup_pi (lv := lv) (j := 4) (v := jI q237.1) (z := x4) f4) ?_
  refine ey_iconst (cd_403 rfl) ?_
  refine ey_iadd (cd_403 rfl) ?_
  obtain ⟨v243, e244, e⟩ := jbind e
  refine ey_iasc (cd_403 rfl) e244 ?_
  refine ey_aload_n (cd_403 rfl) f0 ?_
  refine ey_iload (cd_403 rfl) (jup_pi (lv := lv) (j := 4) (v := jI q237.1) (z := x4) f4) ?_
  refine ey_iconst (cd_403 rfl) ?_
  refine ey_iadd (cd_403 rfl) ?_
  obtain ⟨v245, e246, e⟩ := jbind e
  refine ey_iasc (cd_403 rfl) e246 ?_
  obtain ⟨a247, e248, e⟩ := jbind e
  refine ey_rs (s0 := [jI v245, jI v243, jI v241, jI v239, jR x2]) (s1 := [jI v245, jI v243, jI v241, jI v239, jR (some a247)]) (by rw [e248]) ?_
  obtain ⟨u249, e250, e⟩ := jbind e
  have w251 := jlk_s e250
  refine ey_rs (s0 := [jI v245, jI v243, jI v241, jI v239, jR (some a247)]) (s1 := [jI v245, jI v243, jI v241, jI v239, jR (some 76)]) (by rw [w251.1]) ?_
  obtain ⟨q252, e253, e⟩ := jbind e
  refine ey_cv (s0 := [jI v245, jI v243, jI v241, jI v239, jR (some 76)]) (s1 := []) (st' := [jI q252.1]) (cd_403 rfl) mt_403 mt_220 rfl rfl rfl ⟨Nat.lt_of_lt_of_le (by decide) w251.2.1, w251.2.2.2.1⟩ rfl (jsml_s rfl) rfl (mm_Runs.up (d := 4) (by decide) (by have w := ok_220 (L := L) (xs := xs) (b := q237.2) (m := jmf q237.2) w251.2.1 w251.2.2.1 e253; rw [w251.2.2.2.2] at w; exact w)) ?_
  obtain ⟨h254, e255, e⟩ := jbind e
  refine ey_hs (Option.some.inj e255) ?_
  refine ey_istore (cd_403 rfl) mt_403 rfl ?_
  refine ey_aload_n (cd_403 rfl) f2 ?_
  obtain ⟨a256, e257, e⟩ := jbind e
  refine ey_rs (s0 := [jR x2]) (s1 := [jR (some a256)]) (by rw [e257]) ?_
  obtain ⟨u258, e259, e⟩ := jbind e
  have w260 := jlk_s e259
  refine ey_rs (s0 := [jR (some a256)]) (s1 := [jR (some 76)]) (by rw [w260.1]) ?_
  refine ey_cv (s0 := [jR (some 76)]) (s1 := []) (st' := [jI (jd_203 (jmf h254))]) (cd_403 rfl) mt_403 mt_203 rfl rfl rfl ⟨Nat.lt_of_lt_of_le (by decide) w260.2.1, w260.2.2.2.1⟩ rfl (jsml_s rfl) rfl (mm_Runs.up (d := 1) (by decide) (by have w := ok_203 (L := L) (xs := xs) (b := h254) (m := jmf h254) w260.2.1 w260.2.2.1 ; rw [w260.2.2.2.2] at w; exact w)) ?_
  refine ey_iload (cd_403 rfl) (jup_pi (lv := (jup lv 5 (jI q237.1))) (j := 5) (v := jI q252.1) (z := q237.1) rfl) ?_
  by_cases q261 : (jw (jd_203 (jmf h254))) = (jw q237.1)
  · rw [if_pos q261] at e
    refine ey_ceq (cd_403 rfl) rfl rfl rfl q261 ?_
    refine ey_iload (cd_403 rfl) (jup_pi (lv := (jup lv 5 (jI q237.1))) (j := 5) (v := jI q252.1) (z := q237.1) rfl) ?_
    by_cases q262 : (jw q237.1) = 0
    · rw [if_pos q262] at e
      refine ey_yne (cd_403 rfl) rfl rfl (fun w => w q262) ?_
      refine ey_aload_n (cd_403 rfl) f3 ?_
      refine ey_iconst (cd_403 rfl) ?_
      obtain ⟨a263, e264, e⟩ := jbind e
      refine ey_rs (s0 := [jI 0, jR x3]) (s1 := [jI 0, jR (some a263)]) (by rw [e264]) ?_
      obtain ⟨v265, e266, e⟩ := jbind e
      refine ey_lald (cd_403 rfl) e266 ?_
      refine ey_iload (cd_403 rfl) rfl ?_
      refine ey_i2l (cd_403 rfl) ?_
      refine ey_lcmp (cd_403 rfl) ?_
      by_cases q267 : (jwl v265) = (jw q252.1)
      · rw [if_pos q267] at e
        refine ey_zeq (cd_403 rfl) rfl rfl ((jlc_eq rfl (jwl_jw _)).mpr q267) ?_
        exact jk_403_b837 e K (jup (jup lv 5 (jI q237.1)) 6 (jI q252.1)) f0 f1 f2 f3 (jup_o rfl (jup_pi (lv := lv) (j := 4) (v := jI q237.1) (z := x4) f4))
      · rw [if_neg q267] at e
        refine ey_yeq (cd_403 rfl) rfl rfl (fun w => q267 ((jlc_eq rfl (jwl_jw _)).mp w)) ?_
        cases e
    · rw [if_neg q262] at e
      refine ey_zne (cd_403 rfl) rfl rfl q262 ?_
      exact jk_403_b837 e K (jup (jup lv 5 (jI q237.1)) 6 (jI q252.1)) f0 f1 f2 f3 (jup_o rfl (jup_pi (lv := lv) (j := 4) (v := jI q237.1) (z := x4) f4))
  · rw [if_neg q261] at e
    refine ey_neq (cd_403 rfl) rfl rfl rfl q261 ?_
    cases e
set_option maxRecDepth 100000 in
theorem jk_403_b905 {L : Nat} {xs : Nat → Int32} {x1 : Option Nat} {x2 : Option Nat} {x3 : Option Nat} {x4 : Int} {h : jH} {o : ((Int × jH) ⊕ jH)} {r : mm_R} (e : jd_403_b905 L xs x1 x2 x3 x4 h = some o) (K : jsm (fun s => (∀ lv : jL, lv 0 = some (jR (some 1000000)) → lv 1 = some (jR x1) → lv 2 = some (jR x2) → lv 3 = some (jR x3) → lv 4 = some (jI s.1) → ey (mm_xt L xs) 72 403 23 lv [] s.2 r)) (fun x => (∀ lv : jL, ey (mm_xt L xs) 72 403 3175 lv [] x r)) o) : ∀ lv : jL, lv 0 = some (jR (some 1000000)) → lv 1 = some (jR x1) → lv 2 = some (jR x2) → lv 3 = some (jR x3) → lv 4 = some (jI x4) → ey (mm_xt L xs) 72 403 905 lv [] h r := by
  intro lv f0 f1 f2 f3 f4
  unfold jd_403_b905 at e
  refine ey_goto (cd_403 rfl) rfl ?_
  exact jk_403_b3169 e K lv f0 f1 f2 f3 f4
set_option maxRecDepth 100000 in
theorem jk_403_b840 {L : Nat} {xs : Nat → Int32} {x1 : Option Nat} {x2 : Option Nat} {x3 : Option Nat} {x4 : Int} {h : jH} {o : ((Int × jH) ⊕ jH)} {r : mm_R} (e : jd_403_b840 L xs x1 x2 x3 x4 h = some o) (K : jsm (fun s => (∀ lv : jL, lv 0 = some (jR (some 1000000)) → lv 1 = some (jR x1) → lv 2 = some (jR x2) → lv 3 = some (jR x3) → lv 4 = some (jI s.1) → ey (mm_xt L xs) 72 403 23 lv [] s.2 r)) (fun x => (∀ lv : jL, ey (mm_xt L xs) 72 403 3175 lv [] x r)) o) : ∀ lv : jL, lv 0 = some (jR (some 1000000)) → lv 1 = some (jR x1) → lv 2 = some (jR x2) → lv 3 = some (jR x3) → lv 4 = some (jI x4) → ey (mm_xt L xs) 72 403 840 lv [] h r := by
  intro lv f0 f1 f2 f3 f4
  unfold jd_403_b840 at e
  refine ey_aload_n (cd_403 rfl) f1 ?_
  refine ey_aload_n (cd_403 rfl) f0 ?_
  refine ey_iload (cd_403 rfl) f4 ?_
  refine ey_iconst (cd_403 rfl) ?_
  refine ey_iadd (cd_403 rfl) ?_
  obtain ⟨v269, e270, e⟩ := jbind e
  refine ey_iasc (cd_403 rfl) e270 ?_
  refine ey_aload_n (cd_403 rfl) f0 ?_
  refine ey_iload (cd_403 rfl) f4 ?_
  refine ey_iconst (cd_403 rfl) ?_
  refine ey_iadd (cd_403 rfl) ?_
  obtain ⟨v271, e272, e⟩ := jbind e
  refine ey_iasc (cd_403 rfl) e272 ?_
  refine ey_aload_n (cd_403 rfl) f3 ?_
  obtain ⟨q273, e274, e⟩ := jbind e
  refine ey_cs (s0 := [jR x3, jI v271, jI v269, jR x1]) (s1 := []) (st' := [jI q273.1]) (cd_403 rfl) mt_403 mt_371 rfl (by decide) rfl rfl (jsml_s rfl) rfl (mm_Runs.up (d := 3) (by decide) (ok_371 e274)) ?_
  refine ey_istore (cd_403 rfl) mt_403 rfl ?_
  refine ey_aload_n (cd_403 rfl) f2 ?_
  refine ey_aload_n (cd_403 rfl) f0 ?_
  refine ey_iload (cd_403 rfl) (jup_pi (lv := lv) (j := 4) (v := jI q273.1) (z := x4) f4) ?_
  refine ey_iconst (cd_403 rfl) ?_
  refine ey_iadd (cd_403 rfl) ?_
  obtain ⟨v275, e276, e⟩ := jbind e
  refine ey_iasc (cd_403 rfl) e276 ?_
  refine ey_aload_n (cd_403 rfl) f0 ?_
  refine ey_iload (cd_403 rfl) (jup_pi (lv := lv) (j := 4) (v := jI q273.1) (z := x4) f4) ?_
  refine ey_iconst (cd_403 rfl) ?_
  refine ey_iadd (cd_403 rfl) ?_
  obtain ⟨v277, e278, e⟩ := jbind e
  refine ey_iasc (cd_403 rfl) e278 ?_
  obtain ⟨a279, e280, e⟩ := jbind e
  refine ey_rs (s0 := [jI v277, jI v275, jR x2]) (s1 := [jI v277, jI v275, jR (some a279)]) (by rw [e280]) ?_
  obtain ⟨u281, e282, e⟩ := jbind e
  have w283 := jlk_s e282
  refine ey_rs (s0 := [jI v277, jI v275, jR (some a279)]) (s1 := [jI v277, jI v275, jR (some 76)]) (by rw [w283.1]) ?_
  obtain ⟨q284, e285, e⟩ := jbind e
  refine ey_cv (s0 := [jI v277, jI v275, jR (some 76)]) (s1 := []) (st' := [jI q284.1]) (cd_403 rfl) mt_403 mt_221 rfl rfl rfl ⟨Nat.lt_of_lt_of_le (by decide) w283.2.1, w283.2.2.2.1⟩ rfl (jsml_s rfl) rfl (mm_Runs.up (d := 3) (by decide) (by have w := ok_221 (L := L) (xs := xs) (b := q273.2) (m := jmf q273.2) w283.2.1 w283.2.2.1 e285; rw [w283.2.2.2.2] at w; exact w)) ?_
  obtain ⟨h286, e287, e⟩ := jbind e
  refine ey_hs (Option.some.inj e287) ?_
  refine ey_istore (cd_403 rfl) mt_403 rfl ?_
  refine ey_aload_n (cd_403 rfl) f2 ?_
  obtain ⟨a288, e289, e⟩ := jbind e
  refine ey_rs (s0 := [jR x2]) (s1 := [jR (some a288)]) (by rw [e289]) ?_
  obtain ⟨u290, e291, e⟩ := jbind e
  have w292 := jlk_s e291
  refine ey_rs (s0 := [jR (some a288)]) (s1 := [jR (some 76)]) (by rw [w292.1]) ?_
  refine ey_cv (s0 := [jR (some 76)]) (s1 := []) (st' := [jI (jd_203 (jmf h286))]) (cd_403 rfl) mt_403 mt_203 rfl rfl rfl ⟨Nat.lt_of_lt_of_le (by decide) w292.2.1, w292.2.2.2.1⟩ rfl (jsml_s rfl) rfl (mm_Runs.up (d := 1) (by decide) (by have w := ok_203 (L := L) (xs := xs) (b := h286) (m := jmf h286) w292.2.1 w292.2.2.1 ; rw [w292.2.2.2.2] at w; exact w)) ?_
  refine ey_iload (cd_403 rfl) (jup_pi (lv := (jup lv 5 (jI q273.1))) (j := 5) (v := jI q284.1) (z := q273.1) rfl) ?_
  by_cases q293 : (jw (jd_203 (jmf h286))) = (jw q273.1)
  · rw [if_pos q293] at e
    refine ey_ceq (cd_403 rfl) rfl rfl rfl q293 ?_
    refine ey_iload (cd_403 rfl) (jup_pi (lv := (jup lv 5 (jI q273.1))) (j := 5) (v := jI q284.1) (z := q273.1) rfl) ?_
    by_cases q294 : (jw q273.1) = 0
    · rw [if_pos q294] at e
      refine ey_yne (cd_403 rfl) rfl rfl (fun w => w q294) ?_
      refine ey_aload_n (cd_403 rfl) f3 ?_
      refine ey_iconst (cd_403 rfl) ?_
      obtain ⟨a295, e296, e⟩ := jbind e
      refine ey_rs (s0 := [jI 0, jR x3]) (s1 := [jI 0, jR (some a295)]) (by rw [e296]) ?_
      obtain ⟨v297, e298, e⟩ := jbind e
      refine ey_lald (cd_403 rfl) e298 ?_
      refine ey_iload (cd_403 rfl) rfl ?_
      refine ey_i2l (cd_403 rfl) ?_
      refine ey_lcmp (cd_403 rfl) ?_
      by_cases q299 : (jwl v297) = (jw q284.1)
      · rw [if_pos q299] at e
        refine ey_zeq (cd_403 rfl) rfl rfl ((jlc_eq rfl (jwl_jw _)).mpr q299) ?_
        exact jk_403_b905 e K (jup (jup lv 5 (jI q273.1)) 6 (jI q284.1)) f0 f1 f2 f3 (jup_o rfl (jup_pi (lv := lv) (j := 4) (v := jI q273.1) (z := x4) f4))
      · rw [if_neg q299] at e
        refine ey_yeq (cd_403 rfl) rfl rfl (fun w => q299 ((jlc_eq rfl (jwl_jw _)).mp w)) ?_
        cases e
    · rw [if_neg q294] at e
      refine ey_zne (cd_403 rfl) rfl rfl q294 ?_
      exact jk_403_b905 e K (jup (jup lv 5 (jI q273.1)) 6 (jI q284.1)) f0 f1 f2 f3 (jup_o rfl (jup_pi (lv := lv) (j := 4) (v := jI q273.1) (z := x4) f4))
  · rw [if_neg q293] at e
    refine ey_neq (cd_403 rfl) rfl rfl rfl q293 ?_
    cases e
set_option maxRecDepth 100000 in
theorem jk_403_b961 {L : Nat} {xs : Nat → Int32} {x1 : Option Nat} {x2 : Option Nat} {x3 : Option Nat} {x4 : Int} {h : jH} {o : ((Int × jH) ⊕ jH)} {r : mm_R} (e : jd_403_b961 L xs x1 x2 x3 x4 h = some o) (K : jsm (fun s => (∀ lv : jL, lv 0 = some (jR (some 1000000)) → lv 1 = some (jR x1) → lv 2 = some (jR x2) → lv 3 = some (jR x3) → lv 4 = some (jI s.1) → ey (mm_xt L xs) 72 403 23 lv [] s.2 r)) (fun x => (∀ lv : jL, ey (mm_xt L xs) 72 403 3175 lv [] x r)) o) : ∀ lv : jL, lv 0 = some (jR (some 1000000)) → lv 1 = some (jR x1) → lv 2 = some (jR x2) → lv 3 = some (jR x3) → lv 4 = some (jI x4) → ey (mm_xt L xs) 72 403 961 lv [] h r := by
  intro lv f0 f1 f2 f3 f4
  unfold jd_403_b961 at e
  refine ey_goto (cd_403 rfl) rfl ?_
  exact jk_403_b3169 e K lv f0 f1 f2 f3 f4
set_option maxRecDepth 100000 in
theorem jk_403_b908 {L : Nat} {xs : Nat → Int32} {x1 : Option Nat} {x2 : Option Nat} {x3 : Option Nat} {x4 : Int} {h : jH} {o : ((Int × jH) ⊕ jH)} {r : mm_R} (e : jd_403_b908 L xs x1 x2 x3 x4 h = some o) (K : jsm (fun s => (∀ lv : jL, lv 0 = some (jR (some 1000000)) → lv 1 = some (jR x1) → lv 2 = some (jR x2) → lv 3 = some (jR x3) → lv 4 = some (jI s.1) → ey (mm_xt L xs) 72 403 23 lv [] s.2 r)) (fun x => (∀ lv : jL, ey (mm_xt L xs) 72 403 3175 lv [] x r)) o) : ∀ lv : jL, lv 0 = some (jR (some 1000000)) → lv 1 = some (jR x1) → lv 2 = some (jR x2) → lv 3 = some (jR x3) → lv 4 = some (jI x4) → ey (mm_xt L xs) 72 403 908 lv [] h r := by
  intro lv f0 f1 f2 f3 f4
  unfold jd_403_b908 at e
  refine ey_aload_n (cd_403 rfl) f1 ?_
  refine ey_aload_n (cd_403 rfl) f0 ?_
  refine ey_iload (cd_403 rfl) f4 ?_
  refine ey_iconst (cd_403 rfl) ?_
  refine ey_iadd (cd_403 rfl) ?_
  obtain ⟨v301, e302, e⟩ := jbind e
  refine ey_iasc (cd_403 rfl) e302 ?_
  refine ey_aload_n (cd_403 rfl) f3 ?_
  obtain ⟨q303, e304, e⟩ := jbind e
  refine ey_cs (s0 := [jR x3, jI v301, jR x1]) (s1 := []) (st' := [jI q303.1]) (cd_403 rfl) mt_403 mt_372 rfl (by decide) rfl rfl (jsml_s rfl) rfl (mm_Runs.up (d := 2) (by decide) (ok_372 e304)) ?_
  refine ey_istore (cd_403 rfl) mt_403 rfl ?_
  refine ey_aload_n (cd_403 rfl) f2 ?_
  refine ey_aload_n (cd_403 rfl) f0 ?_
  refine ey_iload (cd_403 rfl) (jup_pi (lv := lv) (j := 4) (v := jI q303.1) (z := x4) f4) ?_
  refine ey_iconst (cd_403 rfl) ?_
  refine ey_iadd (cd_403 rfl) ?_
  obtain ⟨v305, e306, e⟩ := jbind e
  refine ey_iasc (cd_403 rfl) e306 ?_
  obtain ⟨a307, e308, e⟩ := jbind e
  refine ey_rs (s0 := [jI v305, jR x2]) (s1 := [jI v305, jR (some a307)]) (by rw [e308]) ?_
  obtain ⟨u309, e310, e⟩ := jbind e
  have w311 := jlk_s e310
  refine ey_rs (s0 := [jI v305, jR (some a307)]) (s1 := [jI v305, jR (some 76)]) (by rw [w311.1]) ?_
  obtain ⟨q312, e313, e⟩ := jbind e
  refine ey_cv (s0 := [jI v305, jR (some 76)]) (s1 := []) (st' := [jI q312.1]) (cd_403 rfl) mt_403 mt_222 rfl rfl rfl ⟨Nat.lt_of_lt_of_le (by decide) w311.2.1, w311.2.2.2.1⟩ rfl (jsml_s rfl) rfl (mm_Runs.up (d := 1) (by decide) (by have w := ok_222 (L := L) (xs := xs) (b := q303.2) (m := jmf q303.2) w311.2.1 w311.2.2.1 e313; rw [w311.2.2.2.2] at w; exact w)) ?_
  obtain ⟨h314, e315, e⟩ := jbind e
  refine ey_hs (Option.some.inj e315) ?_
  refine ey_istore (cd_403 rfl) mt_403 rfl ?_
  refine ey_aload_n (cd_403 rfl) f2 ?_
  obtain ⟨a316, e317, e⟩ := jbind e
  refine ey_rs (s0 := [jR x2]) (s1 := [jR (some a316)]) (by rw [e317]) ?_
  obtain ⟨u318, e319, e⟩ := jbind e
  have w320 := jlk_s e319
  refine ey_rs (s0 := [jR (some a316)]) (s1 := [jR (some 76)]) (by rw [w320.1]) ?_
  refine ey_cv (s0 := [jR (some 76)]) (s1 := []) (st' := [jI (jd_203 (jmf h314))]) (cd_403 rfl) mt_403 mt_203 rfl rfl rfl ⟨Nat.lt_of_lt_of_le (by decide) w320.2.1, w320.2.2.2.1⟩ rfl (jsml_s rfl) rfl (mm_Runs.up (d := 1) (by decide) (by have w := ok_203 (L := L) (xs := xs) (b := h314) (m := jmf h314) w320.2.1 w320.2.2.1 ; rw [w320.2.2.2.2] at w; exact w)) ?_
  refine ey_iload (cd_403 rfl) (jup_pi (lv := (jup lv 5 (jI q303.1))) (j := 5) (v := jI q312.1) (z := q303.1) rfl) ?_
  by_cases q321 : (jw (jd_203 (jmf h314))) = (jw q303.1)
  · rw [if_pos q321] at e
    refine ey_ceq (cd_403 rfl) rfl rfl rfl q321 ?_
    refine ey_iload (cd_403 rfl) (jup_pi (lv := (jup lv 5 (jI q303.1))) (j := 5) (v := jI q312.1) (z := q303.1) rfl) ?_
    by_cases q322 : (jw q303.1) = 0
    · rw [if_pos q322] at e
      refine ey_yne (cd_403 rfl) rfl rfl (fun w => w q322) ?_
      refine ey_aload_n (cd_403 rfl) f3 ?_
      refine ey_iconst (cd_403 rfl) ?_
      obtain ⟨a323, e324, e⟩ := jbind e
      refine ey_rs (s0 := [jI 0, jR x3]) (s1 := [jI 0, jR (some a323)]) (by rw [e324]) ?_
      obtain ⟨v325, e326, e⟩ := jbind e
      refine ey_lald (cd_403 rfl) e326 ?_
      refine ey_iload (cd_403 rfl) rfl ?_
      refine ey_i2l (cd_403 rfl) ?_
      refine ey_lcmp (cd_403 rfl) ?_
      by_cases q327 : (jwl v325) = (jw q312.1)
      · rw [if_pos q327] at e
        refine ey_zeq (cd_403 rfl) rfl rfl ((jlc_eq rfl (jwl_jw _)).mpr q327) ?_
        exact jk_403_b961 e K (jup (jup lv 5 (jI q303.1)) 6 (jI q312.1)) f0 f1 f2 f3 (jup_o rfl (jup_pi (lv := lv) (j := 4) (v := jI q303.1) (z := x4) f4))
      · rw [if_neg q327] at e
        refine ey_yeq (cd_403 rfl) rfl rfl (fun w => q327 ((jlc_eq rfl (jwl_jw _)).mp w)) ?_
        cases e
    · rw [if_neg q322] at e
      refine ey_zne (cd_403 rfl) rfl rfl q322 ?_
      exact jk_403_b961 e K (jup (jup lv 5 (jI q303.1)) 6 (jI q312.1)) f0 f1 f2 f3 (jup_o rfl (jup_pi (lv := lv) (j := 4) (v := jI q303.1) (z := x4) f4))
  · rw [if_neg q321] at e
    refine ey_neq (cd_403 rfl) rfl rfl rfl q321 ?_
    cases e
set_option maxRecDepth 100000 in
theorem jk_403_b1061 {L : Nat} {xs : Nat → Int32} {x1 : Option Nat} {x2 : Option Nat} {x3 : Option Nat} {x4 : Int} {h : jH} {o : ((Int × jH) ⊕ jH)} {r : mm_R} (e : jd_403_b1061 L xs x1 x2 x3 x4 h = some o) (K : jsm (fun s => (∀ lv : jL, lv 0 = some (jR (some 1000000)) → lv 1 = some (jR x1) → lv 2 = some (jR x2) → lv 3 = some (jR x3) → lv 4 = some (jI s.1) → ey (mm_xt L xs) 72 403 23 lv [] s.2 r)) (fun x => (∀ lv : jL, ey (mm_xt L xs) 72 403 3175 lv [] x r)) o) : ∀ lv : jL, lv 0 = some (jR (some 1000000)) → lv 1 = some (jR x1) → lv 2 = some (jR x2) → lv 3 = some (jR x3) → lv 4 = some (jI x4) → ey (mm_xt L xs) 72 403 1061 lv [] h r := by
  intro lv f0 f1 f2 f3 f4
  unfold jd_403_b1061 at e
  refine ey_goto (cd_403 rfl) rfl ?_
  exact jk_403_b3169 e K lv f0 f1 f2 f3 f4
set_option maxRecDepth 100000 in
theorem jk_403_b964 {L : Nat} {xs : Nat → Int32} {x1 : Option Nat} {x2 : Option Nat} {x3 : Option Nat} {x4 : Int} {h : jH} {o : ((Int × jH) ⊕ jH)} {r : mm_R} (e : jd_403_b964 L xs x1 x2 x3 x4 h = some o) (K : jsm (fun s => (∀ lv : jL, lv 0 = some (jR (some 1000000)) → lv 1 = some (jR x1) → lv 2 = some (jR x2) → lv 3 = some (jR x3) → lv 4 = some (jI s.1) → ey (mm_xt L xs) 72 403 23 lv [] s.2 r)) (fun x => (∀ lv : jL, ey (mm_xt L xs) 72 403 3175 lv [] x r)) o) : ∀ lv : jL, lv 0 = some (jR (some 1000000)) → lv 1 = some (jR x1) → lv 2 = some (jR x2) → lv 3 = some (jR x3) → lv 4 = some (jI x4) → ey (mm_xt L xs) 72 403 964 lv [] h r := by
  intro lv f0 f1 f2 f3 f4
  unfold jd_403_b964 at e
  refine ey_aload_n (cd_403 rfl) f1 ?_
  refine ey_aload_n (cd_403 rfl) f0 ?_
  refine ey_iload (cd_403 rfl) f4 ?_
  refine ey_iconst (cd_403 rfl) ?_
  refine ey_iadd (cd_403 rfl) ?_
  obtain ⟨v329, e330, e⟩ := jbind e
  refine ey_iasc (cd_403 rfl) e330 ?_
  refine ey_i2l (cd_403 rfl) ?_
  refine ey_bipush (cd_403 rfl) (by decide) ?_
  refine ey_lshl (cd_403 rfl) ?_
  refine ey_aload_n (cd_403 rfl) f0 ?_
  refine ey_iload (cd_403 rfl) f4 ?_
  refine ey_iconst (cd_403 rfl) ?_
  refine ey_iadd (cd_403 rfl) ?_
  obtain ⟨v331, e332, e⟩ := jbind e
  refine ey_iasc (cd_403 rfl) e332 ?_
  refine ey_i2l (cd_403 rfl) ?_
  refine ey_ldc2 (z := 4294967295) (cd_403 rfl) mt_403 rfl (by decide) ?_
  refine ey_land (cd_403 rfl) ?_
  refine ey_lor (cd_403 rfl) ?_
  refine ey_aload_n (cd_403 rfl) f0 ?_
  refine ey_iload (cd_403 rfl) f4 ?_
  refine ey_iconst (cd_403 rfl) ?_
  refine ey_iadd (cd_403 rfl) ?_
  obtain ⟨v333, e334, e⟩ := jbind e
  refine ey_iasc (cd_403 rfl) e334 ?_
  refine ey_aload_n (cd_403 rfl) f3 ?_
  obtain ⟨q335, e336, e⟩ := jbind e
  refine ey_cs (s0 := [jR x3, jI v333, jJ (jlor (jlshl (jw v329) 32) (jland (jw v331) 4294967295)), jR x1]) (s1 := []) (st' := [jI q335.1]) (cd_403 rfl) mt_403 mt_373 rfl (by decide) rfl rfl (jsml_s rfl) rfl (mm_Runs.up (d := 2) (by decide) (ok_373 e336)) ?_
  refine ey_istore (cd_403 rfl) mt_403 rfl ?_
  refine ey_aload_n (cd_403 rfl) f2 ?_
  refine ey_aload_n (cd_403 rfl) f0 ?_
  refine ey_iload (cd_403 rfl) (jup_pi (lv := lv) (j := 4) (v := jI q335.1) (z := x4) f4) ?_
  refine ey_iconst (cd_403 rfl) ?_
  refine ey_iadd (cd_403 rfl) ?_
  obtain ⟨v337, e338, e⟩ := jbind e
  refine ey_iasc (cd_403 rfl) e338 ?_
  refine ey_i2l (cd_403 rfl) ?_
  refine ey_bipush (cd_403 rfl) (by decide) ?_
  refine ey_lshl (cd_403 rfl) ?_
  refine ey_aload_n (cd_403 rfl) f0 ?_
  refine ey_iload (cd_403 rfl) (jup_pi (lv := lv) (j := 4) (v := jI q335.1) (z := x4) f4) ?_
  refine ey_iconst (cd_403 rfl) ?_
  refine ey_iadd (cd_403 rfl) ?_
  obtain ⟨v339, e340, e⟩ := jbind e
  refine ey_iasc (cd_403 rfl) e340 ?_
  refine ey_i2l (cd_403 rfl) ?_
  refine ey_ldc2 (z := 4294967295) (cd_403 rfl) mt_403 rfl (by decide) ?_
  refine ey_land (cd_403 rfl) ?_
  refine ey_lor (cd_403 rfl) ?_
  refine ey_aload_n (cd_403 rfl) f0 ?_
  refine ey_iload (cd_403 rfl) (jup_pi (lv := lv) (j := 4) (v := jI q335.1) (z := x4) f4) ?_
  refine ey_iconst (cd_403 rfl) ?_
  refine ey_iadd (cd_403 rfl) ?_
  obtain ⟨v341, e342, e⟩ := jbind e
  refine ey_iasc (cd_403 rfl) e342 ?_
  obtain ⟨a343, e344, e⟩ := jbind e
  refine ey_rs (s0 := [jI v341, jJ (jlor (jlshl (jw v337) 32) (jland (jw v339) 4294967295)), jR x2]) (s1 := [jI v341, jJ (jlor (jlshl (jw v337) 32) (jland (jw v339) 4294967295)), jR (some a343)]) (by rw [e344]) ?_
  obtain ⟨u345, e346, e⟩ := jbind e
  have w347 := jlk_s e346
  refine ey_rs (s0 := [jI v341, jJ (jlor (jlshl (jw v337) 32) (jland (jw v339) 4294967295)), jR (some a343)]) (s1 := [jI v341, jJ (jlor (jlshl (jw v337) 32) (jland (jw v339) 4294967295)), jR (some 76)]) (by rw [w347.1]) ?_
  obtain ⟨q348, e349, e⟩ := jbind e
  refine ey_cv (s0 := [jI v341, jJ (jlor (jlshl (jw v337) 32) (jland (jw v339) 4294967295)), jR (some 76)]) (s1 := []) (st' := [jI q348.1]) (cd_403 rfl) mt_403 mt_223 rfl rfl rfl ⟨Nat.lt_of_lt_of_le (by decide) w347.2.1, w347.2.2.2.1⟩ rfl (jsml_s rfl) rfl (mm_Runs.up (d := 2) (by decide) (by have w := ok_223 (L := L) (xs := xs) (b := q335.2) (m := jmf q335.2) w347.2.1 w347.2.2.1 e349; rw [w347.2.2.2.2] at w; exact w)) ?_
  obtain ⟨h350, e351, e⟩ := jbind e
  refine ey_hs (Option.some.inj e351) ?_
  refine ey_istore (cd_403 rfl) mt_403 rfl ?_
  refine ey_aload_n (cd_403 rfl) f2 ?_
  obtain ⟨a352, e353, e⟩ := jbind e
  refine ey_rs (s0 := [jR x2]) (s1 := [jR (some a352)]) (by rw [e353]) ?_
  obtain ⟨u354, e355, e⟩ := jbind e
  have w356 := jlk_s e355
  refine ey_rs (s0 := [jR (some a352)]) (s1 := [jR (some 76)]) (by rw [w356.1]) ?_
  refine ey_cv (s0 := [jR (some 76)]) (s1 := []) (st' := [jI (jd_203 (jmf h350))]) (cd_403 rfl) mt_403 mt_203 rfl rfl rfl ⟨Nat.lt_of_lt_of_le (by decide) w356.2.1, w356.2.2.2.1⟩ rfl (jsml_s rfl) rfl (mm_Runs.up (d := 1) (by decide) (by have w := ok_203 (L := L) (xs := xs) (b := h350) (m := jmf h350) w356.2.1 w356.2.2.1 ; rw [w356.2.2.2.2] at w; exact w)) ?_
  refine ey_iload (cd_403 rfl) (jup_pi (lv := (jup lv 5 (jI q335.1))) (j := 5) (v := jI q348.1) (z := q335.1) rfl) ?_
  by_cases q357 : (jw (jd_203 (jmf h350))) = (jw q335.1)
  · rw [if_pos q357] at e
    refine ey_ceq (cd_403 rfl) rfl rfl rfl q357 ?_
    refine ey_iload (cd_403 rfl) (jup_pi (lv := (jup lv 5 (jI q335.1))) (j := 5) (v := jI q348.1) (z := q335.1) rfl) ?_
    by_cases q358 : (jw q335.1) = 0
    · rw [if_pos q358] at e
      refine ey_yne (cd_403 rfl) rfl rfl (fun w => w q358) ?_
      refine ey_aload_n (cd_403 rfl) f3 ?_
      refine ey_iconst (cd_403 rfl) ?_
      obtain ⟨a359, e360, e⟩ := jbind e
      refine ey_rs (s0 := [jI 0, jR x3]) (s1 := [jI 0, jR (some a359)]) (by rw [e360]) ?_
      obtain ⟨v361, e362, e⟩ := jbind e
      refine ey_lald (cd_403 rfl) e362 ?_
      refine ey_iload (cd_403 rfl) rfl ?_
      refine ey_i2l (cd_403 rfl) ?_
      refine ey_lcmp (cd_403 rfl) ?_
      by_cases q363 : (jwl v361) = (jw q348.1)
      · rw [if_pos q363] at e
        refine ey_zeq (cd_403 rfl) rfl rfl ((jlc_eq rfl (jwl_jw _)).mpr q363) ?_
        exact jk_403_b1061 e K (jup (jup lv 5 (jI q335.1)) 6 (jI q348.1)) f0 f1 f2 f3 (jup_o rfl (jup_pi (lv := lv) (j := 4) (v := jI q335.1) (z := x4) f4))
      · rw [if_neg q363] at e
        refine ey_yeq (cd_403 rfl) rfl rfl (fun w => q363 ((jlc_eq rfl (jwl_jw _)).mp w)) ?_
        cases e
    · rw [if_neg q358] at e
      refine ey_zne (cd_403 rfl) rfl rfl q358 ?_
      exact jk_403_b1061 e K (jup (jup lv 5 (jI q335.1)) 6 (jI q348.1)) f0 f1 f2 f3 (jup_o rfl (jup_pi (lv := lv) (j := 4) (v := jI q335.1) (z := x4) f4))
  · rw [if_neg q357] at e
    refine ey_neq (cd_403 rfl) rfl rfl rfl q357 ?_
    cases e
set_option maxRecDepth 100000 in
theorem jk_403_b1129 {L : Nat} {xs : Nat → Int32} {x1 : Option Nat} {x2 : Option Nat} {x3 : Option Nat} {x4 : Int} {h : jH} {o : ((Int × jH) ⊕ jH)} {r : mm_R} (e : jd_403_b1129 L xs x1 x2 x3 x4 h = some o) (K : jsm (fun s => (∀ lv : jL, lv 0 = some (jR (some 1000000)) → lv 1 = some (jR x1) → lv 2 = some (jR x2) → lv 3 = some (jR x3) → lv 4 = some (jI s.1) → ey (mm_xt L xs) 72 403 23 lv [] s.2 r)) (fun x => (∀ lv : jL, ey (mm_xt L xs) 72 403 3175 lv [] x r)) o) : ∀ lv : jL, lv 0 = some (jR (some 1000000)) → lv 1 = some (jR x1) → lv 2 = some (jR x2) → lv 3 = some (jR x3) → lv 4 = some (jI x4) → ey (mm_xt L xs) 72 403 1129 lv [] h r := by
  intro lv f0 f1 f2 f3 f4
  unfold jd_403_b1129 at e
  refine ey_goto (cd_403 rfl) rfl ?_
  exact jk_403_b3169 e K lv f0 f1 f2 f3 f4
