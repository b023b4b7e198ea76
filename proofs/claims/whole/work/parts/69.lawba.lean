theorem cd_365 {pc : Nat} {i : Instr × Nat} (h : mm_lk mm_c365 pc = some i) : mm_cd 365 pc = some i := h
theorem mt_365 : mm_MT 365 = (13, 8, some .int, 7, 1, [(0, 16, 19, 13), (0, 16, 23, 15)]) := rfl
def jd_365 (p0 : Option Nat) (p1 : Int) (p2 : Int) (p3 : Int) (p4 : Int) (p5 : Int) (p6 : Option Nat) (h : jH) : Option (Int × jH) :=
  ((p0).bind fun a1 => ((jck h a1 11).bind fun u3 => jtc (jd_140 a1 p1 p2 p3 p4 p5 h) (fun v6 h8 => ((p6).bind fun a9 => ((jta h8 a9 3 0 (jw v6)).bind fun h11 => some (0, h11)))) (fun E7 h8 => if E7 = 0 then some (1, h8) else if E7 = 1 then some (2, h8) else none)))
set_option maxRecDepth 100000 in
theorem ok_365 {L : Nat} {xs : Nat → Int32} {p0 : Option Nat} {p1 : Int} {p2 : Int} {p3 : Int} {p4 : Int} {p5 : Int} {p6 : Option Nat} {h : jH} {o : (Int × jH)} (e : jd_365 p0 p1 p2 p3 p4 p5 p6 h = some o) : mm_Runs (mm_xt L xs) 4 365 ([jR p0, jI p1, jI p2, jI p3, jI p4, jI p5, jR p6].map jcv) (jaH h) (.inl (some (jcv (jI o.1)), jaH o.2)) := by
  refine ey_run0 _ mt_365 (jsl_s rfl) ?_
  unfold jd_365 at e
  refine ey_aload (cd_365 rfl) rfl ?_
  refine ey_iconst (cd_365 rfl) ?_
  refine ey_aload_n (cd_365 rfl) rfl ?_
  refine ey_iload_n (cd_365 rfl) rfl ?_
  refine ey_iload_n (cd_365 rfl) rfl ?_
  refine ey_iload_n (cd_365 rfl) rfl ?_
  refine ey_iload (cd_365 rfl) rfl ?_
  refine ey_iload (cd_365 rfl) rfl ?_
  obtain ⟨a1, e2, e⟩ := jbind e
  refine ey_rs (s0 := [jI p5, jI p4, jI p3, jI p2, jI p1, jR p0, jI 0, jR p6]) (s1 := [jI p5, jI p4, jI p3, jI p2, jI p1, jR (some a1), jI 0, jR p6]) (by rw [e2]) ?_
  obtain ⟨u3, e4, e⟩ := jbind e
  rcases jtc_c e with ⟨v6, h8, e5, e⟩ | ⟨E7, h8, e5, e⟩
  rotate_left
  · by_cases q14 : E7 = 0
    · rw [if_pos q14] at e
      subst q14
      refine ey_cvH (s0 := [jI p5, jI p4, jI p3, jI p2, jI p1, jR (some a1), jI 0, jR p6]) (s1 := [jI 0, jR p6]) (cd_365 rfl) mt_365 rfl (cd_365 rfl) rfl rfl mt_140 rfl rfl rfl (jck_s e4) rfl (jsml_s rfl) (ok_140 e5) ?_
      refine ey_iconst (cd_365 rfl) ?_
      cases e
      exact ey_reti (cd_365 rfl) mt_365 rfl
    · rw [if_neg q14] at e
      by_cases q13 : E7 = 1
      · rw [if_pos q13] at e
        subst q13
        refine ey_cvH (s0 := [jI p5, jI p4, jI p3, jI p2, jI p1, jR (some a1), jI 0, jR p6]) (s1 := [jI 0, jR p6]) (cd_365 rfl) mt_365 rfl (cd_365 rfl) rfl rfl mt_140 rfl rfl rfl (jck_s e4) rfl (jsml_s rfl) (ok_140 e5) ?_
        refine ey_iconst (cd_365 rfl) ?_
        cases e
        exact ey_reti (cd_365 rfl) mt_365 rfl
      · rw [if_neg q13] at e
        cases e
  refine ey_cv (s0 := [jI p5, jI p4, jI p3, jI p2, jI p1, jR (some a1), jI 0, jR p6]) (s1 := [jI 0, jR p6]) (st' := [jI v6, jI 0, jR p6]) (cd_365 rfl) mt_365 mt_140 rfl rfl rfl (jck_s e4) rfl (jsml_s rfl) rfl (ok_140 e5) ?_
  refine ey_i2l (cd_365 rfl) ?_
  obtain ⟨a9, e10, e⟩ := jbind e
  refine ey_rs (s0 := [jJ (jw v6), jI 0, jR p6]) (s1 := [jJ (jw v6), jI 0, jR (some a9)]) (by rw [e10]) ?_
  obtain ⟨h11, e12, e⟩ := jbind e
  refine ey_last (cd_365 rfl) e12 ?_
  refine ey_goto (cd_365 rfl) rfl ?_
  refine ey_iconst (cd_365 rfl) ?_
  cases e
  exact ey_reti (cd_365 rfl) mt_365 rfl
theorem cd_366 {pc : Nat} {i : Instr × Nat} (h : mm_lk mm_c366 pc = some i) : mm_cd 366 pc = some i := h
theorem mt_366 : mm_MT 366 = (13, 10, some .int, 9, 1, [(0, 20, 23, 21), (0, 20, 27, 13)]) := rfl
def jd_366 (p0 : Option Nat) (p1 : Int) (p2 : Int) (p3 : Int) (p4 : Int) (p5 : Int) (p6 : Int) (p7 : Int) (p8 : Option Nat) (h : jH) : Option (Int × jH) :=
  ((p0).bind fun a1 => ((jck h a1 11).bind fun u3 => jtc (jd_141 a1 p1 p2 p3 p4 p5 p6 p7 h) (fun v6 h8 => ((p8).bind fun a9 => ((jta h8 a9 3 0 (jw v6)).bind fun h11 => some (0, h11)))) (fun E7 h8 => if E7 = 0 then some (2, h8) else if E7 = 2 then some (1, h8) else none)))
set_option maxRecDepth 100000 in
theorem ok_366 {L : Nat} {xs : Nat → Int32} {p0 : Option Nat} {p1 : Int} {p2 : Int} {p3 : Int} {p4 : Int} {p5 : Int} {p6 : Int} {p7 : Int} {p8 : Option Nat} {h : jH} {o : (Int × jH)} (e : jd_366 p0 p1 p2 p3 p4 p5 p6 p7 p8 h = some o) : mm_Runs (mm_xt L xs) 3 366 ([jR p0, jI p1, jI p2, jI p3, jI p4, jI p5, jI p6, jI p7, jR p8].map jcv) (jaH h) (.inl (some (jcv (jI o.1)), jaH o.2)) := by
  refine ey_run0 _ mt_366 (jsl_s rfl) ?_
  unfold jd_366 at e
  refine ey_aload (cd_366 rfl) rfl ?_
  refine ey_iconst (cd_366 rfl) ?_
  refine ey_aload_n (cd_366 rfl) rfl ?_
  refine ey_iload_n (cd_366 rfl) rfl ?_
  refine ey_iload_n (cd_366 rfl) rfl ?_
  refine ey_iload_n (cd_366 rfl) rfl ?_
  refine ey_iload (cd_366 rfl) rfl ?_
  refine ey_iload (cd_366 rfl) rfl ?_
  refine ey_iload (cd_366 rfl) rfl ?_
  refine ey_iload (cd_366 rfl) rfl ?_
  obtain ⟨a1, e2, e⟩ := jbind e
  refine ey_rs (s0 := [jI p7, jI p6, jI p5, jI p4, jI p3, jI p2, jI p1, jR p0, jI 0, jR p8]) (s1 := [jI p7, jI p6, jI p5, jI p4, jI p3, jI p2, jI p1, jR (some a1), jI 0, jR p8]) (by rw [e2]) ?_
  obtain ⟨u3, e4, e⟩ := jbind e
  rcases jtc_c e with ⟨v6, h8, e5, e⟩ | ⟨E7, h8, e5, e⟩
  rotate_left
  · by_cases q14 : E7 = 0
    · rw [if_pos q14] at e
      subst q14
      refine ey_cvH (s0 := [jI p7, jI p6, jI p5, jI p4, jI p3, jI p2, jI p1, jR (some a1), jI 0, jR p8]) (s1 := [jI 0, jR p8]) (cd_366 rfl) mt_366 rfl (cd_366 rfl) rfl rfl mt_141 rfl rfl rfl (jck_s e4) rfl (jsml_s rfl) (ok_141 e5) ?_
      refine ey_iconst (cd_366 rfl) ?_
      cases e
      exact ey_reti (cd_366 rfl) mt_366 rfl
    · rw [if_neg q14] at e
      by_cases q13 : E7 = 2
      · rw [if_pos q13] at e
        subst q13
        refine ey_cvH (s0 := [jI p7, jI p6, jI p5, jI p4, jI p3, jI p2, jI p1, jR (some a1), jI 0, jR p8]) (s1 := [jI 0, jR p8]) (cd_366 rfl) mt_366 rfl (cd_366 rfl) rfl rfl mt_141 rfl rfl rfl (jck_s e4) rfl (jsml_s rfl) (ok_141 e5) ?_
        refine ey_iconst (cd_366 rfl) ?_
        cases e
        exact ey_reti (cd_366 rfl) mt_366 rfl
      · rw [if_neg q13] at e
        cases e
  refine ey_cv (s0 := [jI p7, jI p6, jI p5, jI p4, jI p3, jI p2, jI p1, jR (some a1), jI 0, jR p8]) (s1 := [jI 0, jR p8]) (st' := [jI v6, jI 0, jR p8]) (cd_366 rfl) mt_366 mt_141 rfl rfl rfl (jck_s e4) rfl (jsml_s rfl) rfl (ok_141 e5) ?_
  refine ey_i2l (cd_366 rfl) ?_
  obtain ⟨a9, e10, e⟩ := jbind e
  refine ey_rs (s0 := [jJ (jw v6), jI 0, jR p8]) (s1 := [jJ (jw v6), jI 0, jR (some a9)]) (by rw [e10]) ?_
  obtain ⟨h11, e12, e⟩ := jbind e
  refine ey_last (cd_366 rfl) e12 ?_
  refine ey_goto (cd_366 rfl) rfl ?_
  refine ey_iconst (cd_366 rfl) ?_
  cases e
  exact ey_reti (cd_366 rfl) mt_366 rfl
theorem cd_367 {pc : Nat} {i : Instr × Nat} (h : mm_lk mm_c367 pc = some i) : mm_cd 367 pc = some i := h
theorem mt_367 : mm_MT 367 = (13, 7, some .int, 5, 1, [(0, 9, 12, 21), (0, 9, 16, 13)]) := rfl
def jd_367 (p0 : Option Nat) (p1 : Int) (p2 : Int) (p3 : Int) (p4 : Int) (h : jH) : Option (Int × jH) :=
  ((p0).bind fun a1 => ((jck h a1 11).bind fun u3 => jtc (jd_142 a1 p1 p2 p3 p4 h) (fun v6 h8 => some (0, h8)) (fun E7 h8 => if E7 = 0 then some (2, h8) else if E7 = 2 then some (1, h8) else none)))
set_option maxRecDepth 100000 in
theorem ok_367 {L : Nat} {xs : Nat → Int32} {p0 : Option Nat} {p1 : Int} {p2 : Int} {p3 : Int} {p4 : Int} {h : jH} {o : (Int × jH)} (e : jd_367 p0 p1 p2 p3 p4 h = some o) : mm_Runs (mm_xt L xs) 3 367 ([jR p0, jI p1, jI p2, jJ p3, jI p4].map jcv) (jaH h) (.inl (some (jcv (jI o.1)), jaH o.2)) := by
  refine ey_run0 _ mt_367 (jsl_s rfl) ?_
  unfold jd_367 at e
  refine ey_aload_n (cd_367 rfl) rfl ?_
  refine ey_iload_n (cd_367 rfl) rfl ?_
  refine ey_iload_n (cd_367 rfl) rfl ?_
  refine ey_lload_n (cd_367 rfl) rfl ?_
  refine ey_iload (cd_367 rfl) rfl ?_
  obtain ⟨a1, e2, e⟩ := jbind e
  refine ey_rs (s0 := [jI p4, jJ p3, jI p2, jI p1, jR p0]) (s1 := [jI p4, jJ p3, jI p2, jI p1, jR (some a1)]) (by rw [e2]) ?_
  obtain ⟨u3, e4, e⟩ := jbind e
  rcases jtc_c e with ⟨v6, h8, e5, e⟩ | ⟨E7, h8, e5, e⟩
  rotate_left
  · by_cases q10 : E7 = 0
    · rw [if_pos q10] at e
      subst q10
      refine ey_cvH (s0 := [jI p4, jJ p3, jI p2, jI p1, jR (some a1)]) (s1 := []) (cd_367 rfl) mt_367 rfl (cd_367 rfl) rfl rfl mt_142 rfl rfl rfl (jck_s e4) rfl (jsml_s rfl) (ok_142 e5) ?_
      refine ey_iconst (cd_367 rfl) ?_
      cases e
      exact ey_reti (cd_367 rfl) mt_367 rfl
    · rw [if_neg q10] at e
      by_cases q9 : E7 = 2
      · rw [if_pos q9] at e
        subst q9
        refine ey_cvH (s0 := [jI p4, jJ p3, jI p2, jI p1, jR (some a1)]) (s1 := []) (cd_367 rfl) mt_367 rfl (cd_367 rfl) rfl rfl mt_142 rfl rfl rfl (jck_s e4) rfl (jsml_s rfl) (ok_142 e5) ?_
        refine ey_iconst (cd_367 rfl) ?_
        cases e
        exact ey_reti (cd_367 rfl) mt_367 rfl
      · rw [if_neg q9] at e
        cases e
  refine ey_cv (s0 := [jI p4, jJ p3, jI p2, jI p1, jR (some a1)]) (s1 := []) (st' := []) (cd_367 rfl) mt_367 mt_142 rfl rfl rfl (jck_s e4) rfl (jsml_s rfl) rfl (ok_142 e5) ?_
  refine ey_goto (cd_367 rfl) rfl ?_
  refine ey_iconst (cd_367 rfl) ?_
  cases e
  exact ey_reti (cd_367 rfl) mt_367 rfl
theorem cd_368 {pc : Nat} {i : Instr × Nat} (h : mm_lk mm_c368 pc = some i) : mm_cd 368 pc = some i := h
theorem mt_368 : mm_MT 368 = (13, 6, some .int, 5, 1, [(0, 12, 15, 21), (0, 12, 19, 13), (0, 12, 23, 15)]) := rfl
def jd_368 (p0 : Option Nat) (p1 : Int) (p2 : Int) (p3 : Int) (p4 : Option Nat) (h : jH) : Option (Int × jH) :=
  ((p0).bind fun a1 => ((jck h a1 11).bind fun u3 => jtc (jd_143 a1 p1 p2 p3 h) (fun v6 h8 => ((p4).bind fun a9 => ((jta h8 a9 3 0 (jw v6)).bind fun h11 => some (0, h11)))) (fun E7 h8 => if E7 = 0 then some (2, h8) else if E7 = 1 then some (3, h8) else if E7 = 2 then some (1, h8) else none)))
set_option maxRecDepth 100000 in
theorem ok_368 {L : Nat} {xs : Nat → Int32} {p0 : Option Nat} {p1 : Int} {p2 : Int} {p3 : Int} {p4 : Option Nat} {h : jH} {o : (Int × jH)} (e : jd_368 p0 p1 p2 p3 p4 h = some o) : mm_Runs (mm_xt L xs) 4 368 ([jR p0, jI p1, jI p2, jI p3, jR p4].map jcv) (jaH h) (.inl (some (jcv (jI o.1)), jaH o.2)) := by
  refine ey_run0 _ mt_368 (jsl_s rfl) ?_
  unfold jd_368 at e
  refine ey_aload (cd_368 rfl) rfl ?_
  refine ey_iconst (cd_368 rfl) ?_
  refine ey_aload_n (cd_368 rfl) rfl ?_
  refine ey_iload_n (cd_368 rfl) rfl ?_
  refine ey_iload_n (cd_368 rfl) rfl ?_
  refine ey_iload_n (cd_368 rfl) rfl ?_
  obtain ⟨a1, e2, e⟩ := jbind e
  refine ey_rs (s0 := [jI p3, jI p2, jI p1, jR p0, jI 0, jR p4]) (s1 := [jI p3, jI p2, jI p1, jR (some a1), jI 0, jR p4]) (by rw [e2]) ?_
  obtain ⟨u3, e4, e⟩ := jbind e
  rcases jtc_c e with ⟨v6, h8, e5, e⟩ | ⟨E7, h8, e5, e⟩
  rotate_left
  · by_cases q15 : E7 = 0
    · rw [if_pos q15] at e
      subst q15
      refine ey_cvH (s0 := [jI p3, jI p2, jI p1, jR (some a1), jI 0, jR p4]) (s1 := [jI 0, jR p4]) (cd_368 rfl) mt_368 rfl (cd_368 rfl) rfl rfl mt_143 rfl rfl rfl (jck_s e4) rfl (jsml_s rfl) (ok_143 e5) ?_
      refine ey_iconst (cd_368 rfl) ?_
      cases e
      exact ey_reti (cd_368 rfl) mt_368 rfl
    · rw [if_neg q15] at e
      by_cases q14 : E7 = 1
      · rw [if_pos q14] at e
        subst q14
        refine ey_cvH (s0 := [jI p3, jI p2, jI p1, jR (some a1), jI 0, jR p4]) (s1 := [jI 0, jR p4]) (cd_368 rfl) mt_368 rfl (cd_368 rfl) rfl rfl mt_143 rfl rfl rfl (jck_s e4) rfl (jsml_s rfl) (ok_143 e5) ?_
        refine ey_iconst (cd_368 rfl) ?_
        cases e
        exact ey_reti (cd_368 rfl) mt_368 rfl
      · rw [if_neg q14] at e
        by_cases q13 : E7 = 2
        · rw [if_pos q13] at e
          subst q13
          refine ey_cvH (s0 := [jI p3, jI p2, jI p1, jR (some a1), jI 0, jR p4]) (s1 := [jI 0, jR p4]) (cd_368 rfl) mt_368 rfl (cd_368 rfl) rfl rfl mt_143 rfl rfl rfl (jck_s e4) rfl (jsml_s rfl) (ok_143 e5) ?_
          refine ey_iconst (cd_368 rfl) ?_
          cases e
          exact ey_reti (cd_368 rfl) mt_368 rfl
        · rw [if_neg q13] at e
          cases e
  refine ey_cv (s0 := [jI p3, jI p2, jI p1, jR (some a1), jI 0, jR p4]) (s1 := [jI 0, jR p4]) (st' := [jI v6, jI 0, jR p4]) (cd_368 rfl) mt_368 mt_143 rfl rfl rfl (jck_s e4) rfl (jsml_s rfl) rfl (ok_143 e5) ?_
  refine ey_i2l (cd_368 rfl) ?_
  obtain ⟨a9, e10, e⟩ := jbind e
  refine ey_rs (s0 := [jJ (jw v6), jI 0, jR p4]) (s1 := [jJ (jw v6), jI 0, jR (some a9)]) (by rw [e10]) ?_
  obtain ⟨h11, e12, e⟩ := jbind e
  refine ey_last (cd_368 rfl) e12 ?_
  refine ey_goto (cd_368 rfl) rfl ?_
  refine ey_iconst (cd_368 rfl) ?_
  cases e
  exact ey_reti (cd_368 rfl) mt_368 rfl
theorem cd_369 {pc : Nat} {i : Instr × Nat} (h : mm_lk mm_c369 pc = some i) : mm_cd 369 pc = some i := h
theorem mt_369 : mm_MT 369 = (13, 8, some .int, 7, 1, [(0, 16, 19, 21), (0, 16, 23, 13)]) := rfl
def jd_369 (p0 : Option Nat) (p1 : Int) (p2 : Int) (p3 : Int) (p4 : Int) (p5 : Int) (p6 : Option Nat) (h : jH) : Option (Int × jH) :=
  ((p0).bind fun a1 => ((jck h a1 11).bind fun u3 => jtc (jd_144 a1 p1 p2 p3 p4 p5 h) (fun v6 h8 => ((p6).bind fun a9 => ((jta h8 a9 3 0 (jw v6)).bind fun h11 => some (0, h11)))) (fun E7 h8 => if E7 = 0 then some (2, h8) else if E7 = 2 then some (1, h8) else none)))
set_option maxRecDepth 100000 in
theorem ok_369 {L : Nat} {xs : Nat → Int32} {p0 : Option Nat} {p1 : Int} {p2 : Int} {p3 : Int} {p4 : Int} {p5 : Int} {p6 : Option Nat} {h : jH} {o : (Int × jH)} (e : jd_369 p0 p1 p2 p3 p4 p5 p6 h = some o) : mm_Runs (mm_xt L xs) 4 369 ([jR p0, jI p1, jI p2, jI p3, jI p4, jI p5, jR p6].map jcv) (jaH h) (.inl (some (jcv (jI o.1)), jaH o.2)) := by
  refine ey_run0 _ mt_369 (jsl_s rfl) ?_
  unfold jd_369 at e
  refine ey_aload (cd_369 rfl) rfl ?_
  refine ey_iconst (cd_369 rfl) ?_
  refine ey_aload_n (cd_369 rfl) rfl ?_
  refine ey_iload_n (cd_369 rfl) rfl ?_
  refine ey_iload_n (cd_369 rfl) rfl ?_
  refine ey_iload_n (cd_369 rfl) rfl ?_
  refine ey_iload (cd_369 rfl) rfl ?_
  refine ey_iload (cd_369 rfl) rfl ?_
  obtain ⟨a1, e2, e⟩ := jbind e
  refine ey_rs (s0 := [jI p5, jI p4, jI p3, jI p2, jI p1, jR p0, jI 0, jR p6]) (s1 := [jI p5, jI p4, jI p3, jI p2, jI p1, jR (some a1), jI 0, jR p6]) (by rw [e2]) ?_
  obtain ⟨u3, e4, e⟩ := jbind e
  rcases jtc_c e with ⟨v6, h8, e5, e⟩ | ⟨E7, h8, e5, e⟩
  rotate_left
  · by_cases q14 : E7 = 0
    · rw [if_pos q14] at e
      subst q14
      refine ey_cvH (s0 := [jI p5, jI p4, jI p3, jI p2, jI p1, jR (some a1), jI 0, jR p6]) (s1 := [jI 0, jR p6]) (cd_369 rfl) mt_369 rfl (cd_369 rfl) rfl rfl mt_144 rfl rfl rfl (jck_s e4) rfl (jsml_s rfl) (ok_144 e5) ?_
      refine ey_iconst (cd_369 rfl) ?_
      cases e
      exact ey_reti (cd_369 rfl) mt_369 rfl
    · rw [if_neg q14] at e
      by_cases q13 : E7 = 2
      · rw [if_pos q13] at e
        subst q13
        refine ey_cvH (s0 := [jI p5, jI p4, jI p3, jI p2, jI p1, jR (some a1), jI 0, jR p6]) (s1 := [jI 0, jR p6]) (cd_369 rfl) mt_369 rfl (cd_369 rfl) rfl rfl mt_144 rfl rfl rfl (jck_s e4) rfl (jsml_s rfl) (ok_144 e5) ?_
        refine ey_iconst (cd_369 rfl) ?_
        cases e
        exact ey_reti (cd_369 rfl) mt_369 rfl
      · rw [if_neg q13] at e
        cases e
  refine ey_cv (s0 := [jI p5, jI p4, jI p3, jI p2, jI p1, jR (some a1), jI 0, jR p6]) (s1 := [jI 0, jR p6]) (st' := [jI v6, jI 0, jR p6]) (cd_369 rfl) mt_369 mt_144 rfl rfl rfl (jck_s e4) rfl (jsml_s rfl) rfl (ok_144 e5) ?_
  refine ey_i2l (cd_369 rfl) ?_
  obtain ⟨a9, e10, e⟩ := jbind e
  refine ey_rs (s0 := [jJ (jw v6), jI 0, jR p6]) (s1 := [jJ (jw v6), jI 0, jR (some a9)]) (by rw [e10]) ?_
  obtain ⟨h11, e12, e⟩ := jbind e
  refine ey_last (cd_369 rfl) e12 ?_
  refine ey_goto (cd_369 rfl) rfl ?_
  refine ey_iconst (cd_369 rfl) ?_
  cases e
  exact ey_reti (cd_369 rfl) mt_369 rfl
theorem cd_370 {pc : Nat} {i : Instr × Nat} (h : mm_lk mm_c370 pc = some i) : mm_cd 370 pc = some i := h
theorem mt_370 : mm_MT 370 = (13, 7, some .int, 6, 1, [(0, 14, 17, 21)]) := rfl
def jd_370 (p0 : Option Nat) (p1 : Int) (p2 : Int) (p3 : Int) (p4 : Int) (p5 : Option Nat) (h : jH) : Option (Int × jH) :=
  ((p0).bind fun a1 => ((jck h a1 11).bind fun u3 => jtc (jd_145 a1 p1 p2 p3 p4 h) (fun v6 h8 => ((p5).bind fun a9 => ((jta h8 a9 3 0 (jw v6)).bind fun h11 => some (0, h11)))) (fun E7 h8 => if E7 = 2 then some (1, h8) else none)))
set_option maxRecDepth 100000 in
theorem ok_370 {L : Nat} {xs : Nat → Int32} {p0 : Option Nat} {p1 : Int} {p2 : Int} {p3 : Int} {p4 : Int} {p5 : Option Nat} {h : jH} {o : (Int × jH)} (e : jd_370 p0 p1 p2 p3 p4 p5 h = some o) : mm_Runs (mm_xt L xs) 4 370 ([jR p0, jI p1, jI p2, jI p3, jI p4, jR p5].map jcv) (jaH h) (.inl (some (jcv (jI o.1)), jaH o.2)) := by
  refine ey_run0 _ mt_370 (jsl_s rfl) ?_
  unfold jd_370 at e
  refine ey_aload (cd_370 rfl) rfl ?_
  refine ey_iconst (cd_370 rfl) ?_
  refine ey_aload_n (cd_370 rfl) rfl ?_
  refine ey_iload_n (cd_370 rfl) rfl ?_
  refine ey_iload_n (cd_370 rfl) rfl ?_
  refine ey_iload_n (cd_370 rfl) rfl ?_
  refine ey_iload (cd_370 rfl) rfl ?_
  obtain ⟨a1, e2, e⟩ := jbind e
  refine ey_rs (s0 := [jI p4, jI p3, jI p2, jI p1, jR p0, jI 0, jR p5]) (s1 := [jI p4, jI p3, jI p2, jI p1, jR (some a1), jI 0, jR p5]) (by rw [e2]) ?_
  obtain ⟨u3, e4, e⟩ := jbind e
  rcases jtc_c e with ⟨v6, h8, e5, e⟩ | ⟨E7, h8, e5, e⟩
  rotate_left
  · by_cases q13 : E7 = 2
    · rw [if_pos q13] at e
      subst q13
      refine ey_cvH (s0 := [jI p4, jI p3, jI p2, jI p1, jR (some a1), jI 0, jR p5]) (s1 := [jI 0, jR p5]) (cd_370 rfl) mt_370 rfl (cd_370 rfl) rfl rfl mt_145 rfl rfl rfl (jck_s e4) rfl (jsml_s rfl) (ok_145 e5) ?_
      refine ey_iconst (cd_370 rfl) ?_
      cases e
      exact ey_reti (cd_370 rfl) mt_370 rfl
    · rw [if_neg q13] at e
      cases e
  refine ey_cv (s0 := [jI p4, jI p3, jI p2, jI p1, jR (some a1), jI 0, jR p5]) (s1 := [jI 0, jR p5]) (st' := [jI v6, jI 0, jR p5]) (cd_370 rfl) mt_370 mt_145 rfl rfl rfl (jck_s e4) rfl (jsml_s rfl) rfl (ok_145 e5) ?_
  refine ey_i2l (cd_370 rfl) ?_
  obtain ⟨a9, e10, e⟩ := jbind e
  refine ey_rs (s0 := [jJ (jw v6), jI 0, jR p5]) (s1 := [jJ (jw v6), jI 0, jR (some a9)]) (by rw [e10]) ?_
  obtain ⟨h11, e12, e⟩ := jbind e
  refine ey_last (cd_370 rfl) e12 ?_
  refine ey_goto (cd_370 rfl) rfl ?_
  refine ey_iconst (cd_370 rfl) ?_
  cases e
  exact ey_reti (cd_370 rfl) mt_370 rfl
theorem cd_371 {pc : Nat} {i : Instr × Nat} (h : mm_lk mm_c371 pc = some i) : mm_cd 371 pc = some i := h
theorem mt_371 : mm_MT 371 = (13, 5, some .int, 4, 1, [(0, 10, 13, 21), (0, 10, 17, 13)]) := rfl
def jd_371 (p0 : Option Nat) (p1 : Int) (p2 : Int) (p3 : Option Nat) (h : jH) : Option (Int × jH) :=
  ((p0).bind fun a1 => ((jck h a1 11).bind fun u3 => jtc (jd_146 a1 p1 p2 h) (fun v6 h8 => ((p3).bind fun a9 => ((jta h8 a9 3 0 (jw v6)).bind fun h11 => some (0, h11)))) (fun E7 h8 => if E7 = 0 then some (2, h8) else if E7 = 2 then some (1, h8) else none)))
set_option maxRecDepth 100000 in
theorem ok_371 {L : Nat} {xs : Nat → Int32} {p0 : Option Nat} {p1 : Int} {p2 : Int} {p3 : Option Nat} {h : jH} {o : (Int × jH)} (e : jd_371 p0 p1 p2 p3 h = some o) : mm_Runs (mm_xt L xs) 3 371 ([jR p0, jI p1, jI p2, jR p3].map jcv) (jaH h) (.inl (some (jcv (jI o.1)), jaH o.2)) := by
  refine ey_run0 _ mt_371 (jsl_s rfl) ?_
  unfold jd_371 at e
  refine ey_aload_n (cd_371 rfl) rfl ?_
  refine ey_iconst (cd_371 rfl) ?_
  refine ey_aload_n (cd_371 rfl) rfl ?_
  refine ey_iload_n (cd_371 rfl) rfl ?_
  refine ey_iload_n (cd_371 rfl) rfl ?_
  obtain ⟨a1, e2, e⟩ := jbind e
  refine ey_rs (s0 := [jI p2, jI p1, jR p0, jI 0, jR p3]) (s1 := [jI p2, jI p1, jR (some a1), jI 0, jR p3]) (by rw [e2]) ?_
  obtain ⟨u3, e4, e⟩ := jbind e
  rcases jtc_c e with ⟨v6, h8, e5, e⟩ | ⟨E7, h8, e5, e⟩
  rotate_left
  · by_cases q14 : E7 = 0
    · rw [if_pos q14] at e
      subst q14
      refine ey_cvH (s0 := [jI p2, jI p1, jR (some a1), jI 0, jR p3]) (s1 := [jI 0, jR p3]) (cd_371 rfl) mt_371 rfl (cd_371 rfl) rfl rfl mt_146 rfl rfl rfl (jck_s e4) rfl (jsml_s rfl) (ok_146 e5) ?_
      refine ey_iconst (cd_371 rfl) ?_
      cases e
      exact ey_reti (cd_371 rfl) mt_371 rfl
    · rw [if_neg q14] at e
      by_cases q13 : E7 = 2
      · rw [if_pos q13] at e
        subst q13
        refine ey_cvH (s0 := [jI p2, jI p1, jR (some a1), jI 0, jR p3]) (s1 := [jI 0, jR p3]) (cd_371 rfl) mt_371 rfl (cd_371 rfl) rfl rfl mt_146 rfl rfl rfl (jck_s e4) rfl (jsml_s rfl) (ok_146 e5) ?_
        refine ey_iconst (cd_371 rfl) ?_
        cases e
        exact ey_reti (cd_371 rfl) mt_371 rfl
      · rw [if_neg q13] at e
        cases e
  refine ey_cv (s0 := [jI p2, jI p1, jR (some a1), jI 0, jR p3]) (s1 := [jI 0, jR p3]) (st' := [jI v6, jI 0, jR p3]) (cd_371 rfl) mt_371 mt_146 rfl rfl rfl (jck_s e4) rfl (jsml_s rfl) rfl (ok_146 e5) ?_
  refine ey_i2l (cd_371 rfl) ?_
  obtain ⟨a9, e10, e⟩ := jbind e
  refine ey_rs (s0 := [jJ (jw v6), jI 0, jR p3]) (s1 := [jJ (jw v6), jI 0, jR (some a9)]) (by rw [e10]) ?_
  obtain ⟨h11, e12, e⟩ := jbind e
  refine ey_last (cd_371 rfl) e12 ?_
  refine ey_goto (cd_371 rfl) rfl ?_
  refine ey_iconst (cd_371 rfl) ?_
  cases e
  exact ey_reti (cd_371 rfl) mt_371 rfl
theorem cd_372 {pc : Nat} {i : Instr × Nat} (h : mm_lk mm_c372 pc = some i) : mm_cd 372 pc = some i := h
theorem mt_372 : mm_MT 372 = (13, 4, some .int, 3, 1, [(0, 9, 12, 13)]) := rfl
def jd_372 (p0 : Option Nat) (p1 : Int) (p2 : Option Nat) (h : jH) : Option (Int × jH) :=
  ((p0).bind fun a1 => ((jck h a1 11).bind fun u3 => jtc (jd_147 a1 p1 h) (fun v6 h8 => ((p2).bind fun a9 => ((jta h8 a9 3 0 (jw v6)).bind fun h11 => some (0, h11)))) (fun E7 h8 => if E7 = 0 then some (1, h8) else none)))
set_option maxRecDepth 100000 in
theorem ok_372 {L : Nat} {xs : Nat → Int32} {p0 : Option Nat} {p1 : Int} {p2 : Option Nat} {h : jH} {o : (Int × jH)} (e : jd_372 p0 p1 p2 h = some o) : mm_Runs (mm_xt L xs) 2 372 ([jR p0, jI p1, jR p2].map jcv) (jaH h) (.inl (some (jcv (jI o.1)), jaH o.2)) := by
  refine ey_run0 _ mt_372 (jsl_s rfl) ?_
  unfold jd_372 at e
  refine ey_aload_n (cd_372 rfl) rfl ?_
  refine ey_iconst (cd_372 rfl) ?_
  refine ey_aload_n (cd_372 rfl) rfl ?_
  refine ey_iload_n (cd_372 rfl) rfl ?_
  obtain ⟨a1, e2, e⟩ := jbind e
  refine ey_rs (s0 := [jI p1, jR p0, jI 0, jR p2]) (s1 := [jI p1, jR (some a1), jI 0, jR p2]) (by rw [e2]) ?_
  obtain ⟨u3, e4, e⟩ := jbind e
  rcases jtc_c e with ⟨v6, h8, e5, e⟩ | ⟨E7, h8, e5, e⟩
  rotate_left
  · by_cases q13 : E7 = 0
    · rw [if_pos q13] at e
      subst q13
      refine ey_cvH (s0 := [jI p1, jR (some a1), jI 0, jR p2]) (s1 := [jI 0, jR p2]) (cd_372 rfl) mt_372 rfl (cd_372 rfl) rfl rfl mt_147 rfl rfl rfl (jck_s e4) rfl (jsml_s rfl) (ok_147 e5) ?_
      refine ey_iconst (cd_372 rfl) ?_
      cases e
      exact ey_reti (cd_372 rfl) mt_372 rfl
    · rw [if_neg q13] at e
      cases e
  refine ey_cv (s0 := [jI p1, jR (some a1), jI 0, jR p2]) (s1 := [jI 0, jR p2]) (st' := [jI v6, jI 0, jR p2]) (cd_372 rfl) mt_372 mt_147 rfl rfl rfl (jck_s e4) rfl (jsml_s rfl) rfl (ok_147 e5) ?_
  refine ey_i2l (cd_372 rfl) ?_
  obtain ⟨a9, e10, e⟩ := jbind e
  refine ey_rs (s0 := [jJ (jw v6), jI 0, jR p2]) (s1 := [jJ (jw v6), jI 0, jR (some a9)]) (by rw [e10]) ?_
  obtain ⟨h11, e12, e⟩ := jbind e
  refine ey_last (cd_372 rfl) e12 ?_
  refine ey_goto (cd_372 rfl) rfl ?_
  refine ey_iconst (cd_372 rfl) ?_
  cases e
  exact ey_reti (cd_372 rfl) mt_372 rfl
theorem cd_373 {pc : Nat} {i : Instr × Nat} (h : mm_lk mm_c373 pc = some i) : mm_cd 373 pc = some i := h
theorem mt_373 : mm_MT 373 = (13, 6, some .int, 4, 1, [(0, 11, 14, 13), (0, 11, 18, 15)]) := rfl
def jd_373 (p0 : Option Nat) (p1 : Int) (p2 : Int) (p3 : Option Nat) (h : jH) : Option (Int × jH) :=
  ((p0).bind fun a1 => ((jck h a1 11).bind fun u3 => jtc (jd_148 a1 p1 p2 h) (fun v6 h8 => ((p3).bind fun a9 => ((jta h8 a9 3 0 (jw v6)).bind fun h11 => some (0, h11)))) (fun E7 h8 => if E7 = 0 then some (1, h8) else if E7 = 1 then some (2, h8) else none)))
set_option maxRecDepth 100000 in
theorem ok_373 {L : Nat} {xs : Nat → Int32} {p0 : Option Nat} {p1 : Int} {p2 : Int} {p3 : Option Nat} {h : jH} {o : (Int × jH)} (e : jd_373 p0 p1 p2 p3 h = some o) : mm_Runs (mm_xt L xs) 2 373 ([jR p0, jJ p1, jI p2, jR p3].map jcv) (jaH h) (.inl (some (jcv (jI o.1)), jaH o.2)) := by
  refine ey_run0 _ mt_373 (jsl_s rfl) ?_
  unfold jd_373 at e
  refine ey_aload (cd_373 rfl) rfl ?_
  refine ey_iconst (cd_373 rfl) ?_
  refine ey_aload_n (cd_373 rfl) rfl ?_
  refine ey_lload_n (cd_373 rfl) rfl ?_
  refine ey_iload_n (cd_373 rfl) rfl ?_
  obtain ⟨a1, e2, e⟩ := jbind e
  refine ey_rs (s0 := [jI p2, jJ p1, jR p0, jI 0, jR p3]) (s1 := [jI p2, jJ p1, jR (some a1), jI 0, jR p3]) (by rw [e2]) ?_
  obtain ⟨u3, e4, e⟩ := jbind e
  rcases jtc_c e with ⟨v6, h8, e5, e⟩ | ⟨E7, h8, e5, e⟩
  rotate_left
  · by_cases q14 : E7 = 0
    · rw [if_pos q14] at e
      subst q14
      refine ey_cvH (s0 := [jI p2, jJ p1, jR (some a1), jI 0, jR p3]) (s1 := [jI 0, jR p3]) (cd_373 rfl) mt_373 rfl (cd_373 rfl) rfl rfl mt_148 rfl rfl rfl (jck_s e4) rfl (jsml_s rfl) (ok_148 e5) ?_
      refine ey_iconst (cd_373 rfl) ?_
      cases e
      exact ey_reti (cd_373 rfl) mt_373 rfl
    · rw [if_neg q14] at e
      by_cases q13 : E7 = 1
      · rw [if_pos q13] at e
        subst q13
        refine ey_cvH (s0 := [jI p2, jJ p1, jR (some a1), jI 0, jR p3]) (s1 := [jI 0, jR p3]) (cd_373 rfl) mt_373 rfl (cd_373 rfl) rfl rfl mt_148 rfl rfl rfl (jck_s e4) rfl (jsml_s rfl) (ok_148 e5) ?_
        refine ey_iconst (cd_373 rfl) ?_
        cases e
        exact ey_reti (cd_373 rfl) mt_373 rfl
      · rw [if_neg q13] at e
        cases e
  refine ey_cv (s0 := [jI p2, jJ p1, jR (some a1), jI 0, jR p3]) (s1 := [jI 0, jR p3]) (st' := [jI v6, jI 0, jR p3]) (cd_373 rfl) mt_373 mt_148 rfl rfl rfl (jck_s e4) rfl (jsml_s rfl) rfl (ok_148 e5) ?_
  refine ey_i2l (cd_373 rfl) ?_
  obtain ⟨a9, e10, e⟩ := jbind e
  refine ey_rs (s0 := [jJ (jw v6), jI 0, jR p3]) (s1 := [jJ (jw v6), jI 0, jR (some a9)]) (by rw [e10]) ?_
  obtain ⟨h11, e12, e⟩ := jbind e
  refine ey_last (cd_373 rfl) e12 ?_
  refine ey_goto (cd_373 rfl) rfl ?_
  refine ey_iconst (cd_373 rfl) ?_
  cases e
  exact ey_reti (cd_373 rfl) mt_373 rfl
theorem cd_374 {pc : Nat} {i : Instr × Nat} (h : mm_lk mm_c374 pc = some i) : mm_cd 374 pc = some i := h
theorem mt_374 : mm_MT 374 = (13, 5, some .int, 4, 1, [(0, 10, 13, 21)]) := rfl
def jd_374 (p0 : Option Nat) (p1 : Int) (p2 : Int) (p3 : Option Nat) (h : jH) : Option (Int × jH) :=
  ((p0).bind fun a1 => ((jck h a1 11).bind fun u3 => jtc (jd_149 a1 p1 p2 h) (fun v6 h8 => ((p3).bind fun a9 => ((jta h8 a9 3 0 (jw v6)).bind fun h11 => some (0, h11)))) (fun E7 h8 => if E7 = 2 then some (1, h8) else none)))
set_option maxRecDepth 100000 in
theorem ok_374 {L : Nat} {xs : Nat → Int32} {p0 : Option Nat} {p1 : Int} {p2 : Int} {p3 : Option Nat} {h : jH} {o : (Int × jH)} (e : jd_374 p0 p1 p2 p3 h = some o) : mm_Runs (mm_xt L xs) 2 374 ([jR p0, jI p1, jI p2, jR p3].map jcv) (jaH h) (.inl (some (jcv (jI o.1)), jaH o.2)) := by
  refine ey_run0 _ mt_374 (jsl_s rfl) ?_
  unfold jd_374 at e
  refine ey_aload_n (cd_374 rfl) rfl ?_
  refine ey_iconst (cd_374 rfl) ?_
  refine ey_aload_n (cd_374 rfl) rfl ?_
  refine ey_iload_n (cd_374 rfl) rfl ?_
  refine ey_iload_n (cd_374 rfl) rfl ?_
  obtain ⟨a1, e2, e⟩ := jbind e
  refine ey_rs (s0 := [jI p2, jI p1, jR p0, jI 0, jR p3]) (s1 := [jI p2, jI p1, jR (some a1), jI 0, jR p3]) (by rw [e2]) ?_
  obtain ⟨u3, e4, e⟩ := jbind e
  rcases jtc_c e with ⟨v6, h8, e5, e⟩ | ⟨E7, h8, e5, e⟩
  rotate_left
  · by_cases q13 : E7 = 2
    · rw [if_pos q13] at e
      subst q13
      refine ey_cvH (s0 := [jI p2, jI p1, jR (some a1), jI 0, jR p3]) (s1 := [jI 0, jR p3]) (cd_374 rfl) mt_374 rfl (cd_374 rfl) rfl rfl mt_149 rfl rfl rfl (jck_s e4) rfl (jsml_s rfl) (ok_149 e5) ?_
      refine ey_iconst (cd_374 rfl) ?_
      cases e
      exact ey_reti (cd_374 rfl) mt_374 rfl
    · rw [if_neg q13] at e
      cases e
  refine ey_cv (s0 := [jI p2, jI p1, jR (some a1), jI 0, jR p3]) (s1 := [jI 0, jR p3]) (st' := [jI v6, jI 0, jR p3]) (cd_374 rfl) mt_374 mt_149 rfl rfl rfl (jck_s e4) rfl (jsml_s rfl) rfl (ok_149 e5) ?_
  refine ey_i2l (cd_374 rfl) ?_
  obtain ⟨a9, e10, e⟩ := jbind e
  refine ey_rs (s0 := [jJ (jw v6), jI 0, jR p3]) (s1 := [jJ (jw v6), jI 0, jR (some a9)]) (by rw [e10]) ?_
  obtain ⟨h11, e12, e⟩ := jbind e
  refine ey_last (cd_374 rfl) e12 ?_
  refine ey_goto (cd_374 rfl) rfl ?_
  refine ey_iconst (cd_374 rfl) ?_
  cases e
  exact ey_reti (cd_374 rfl) mt_374 rfl
theorem cd_375 {pc : Nat} {i : Instr × Nat} (h : mm_lk mm_c375 pc = some i) : mm_cd 375 pc = some i := h
theorem mt_375 : mm_MT 375 = (13, 5, some .int, 4, 1, [(0, 10, 13, 13)]) := rfl
def jd_375 (p0 : Option Nat) (p1 : Int) (p2 : Int) (p3 : Option Nat) (h : jH) : Option (Int × jH) :=
  ((p0).bind fun a1 => ((jck h a1 11).bind fun u3 => jtc (jd_152 a1 p1 p2 h) (fun v6 h8 => ((p3).bind fun a9 => ((jta h8 a9 3 0 (jw v6)).bind fun h11 => some (0, h11)))) (fun E7 h8 => if E7 = 0 then some (1, h8) else none)))
set_option maxRecDepth 100000 in
theorem ok_375 {L : Nat} {xs : Nat → Int32} {p0 : Option Nat} {p1 : Int} {p2 : Int} {p3 : Option Nat} {h : jH} {o : (Int × jH)} (e : jd_375 p0 p1 p2 p3 h = some o) : mm_Runs (mm_xt L xs) 3 375 ([jR p0, jI p1, jI p2, jR p3].map jcv) (jaH h) (.inl (some (jcv (jI o.1)), jaH o.2)) := by
  refine ey_run0 _ mt_375 (jsl_s rfl) ?_
  unfold jd_375 at e
  refine ey_aload_n (cd_375 rfl) rfl ?_
  refine ey_iconst (cd_375 rfl) ?_
  refine ey_aload_n (cd_375 rfl) rfl ?_
  refine ey_iload_n (cd_375 rfl) rfl ?_
  refine ey_iload_n (cd_375 rfl) rfl ?_
  obtain ⟨a1, e2, e⟩ := jbind e
  refine ey_rs (s0 := [jI p2, jI p1, jR p0, jI 0, jR p3]) (s1 := [jI p2, jI p1, jR (some a1), jI 0, jR p3]) (by rw [e2]) ?_
  obtain ⟨u3, e4, e⟩ := jbind e
  rcases jtc_c e with ⟨v6, h8, e5, e⟩ | ⟨E7, h8, e5, e⟩
  rotate_left
  · by_cases q13 : E7 = 0
    · rw [if_pos q13] at e
      subst q13
      refine ey_cvH (s0 := [jI p2, jI p1, jR (some a1), jI 0, jR p3]) (s1 := [jI 0, jR p3]) (cd_375 rfl) mt_375 rfl (cd_375 rfl) rfl rfl mt_152 rfl rfl rfl (jck_s e4) rfl (jsml_s rfl) (ok_152 e5) ?_
      refine ey_iconst (cd_375 rfl) ?_
      cases e
      exact ey_reti (cd_375 rfl) mt_375 rfl
    · rw [if_neg q13] at e
      cases e
  refine ey_cv (s0 := [jI p2, jI p1, jR (some a1), jI 0, jR p3]) (s1 := [jI 0, jR p3]) (st' := [jI v6, jI 0, jR p3]) (cd_375 rfl) mt_375 mt_152 rfl rfl rfl (jck_s e4) rfl (jsml_s rfl) rfl (ok_152 e5) ?_
  refine ey_i2l (cd_375 rfl) ?_
  obtain ⟨a9, e10, e⟩ := jbind e
  refine ey_rs (s0 := [jJ (jw v6), jI 0, jR p3]) (s1 := [jJ (jw v6), jI 0, jR (some a9)]) (by rw [e10]) ?_
  obtain ⟨h11, e12, e⟩ := jbind e
  refine ey_last (cd_375 rfl) e12 ?_
  refine ey_goto (cd_375 rfl) rfl ?_
  refine ey_iconst (cd_375 rfl) ?_
  cases e
  exact ey_reti (cd_375 rfl) mt_375 rfl
theorem cd_376 {pc : Nat} {i : Instr × Nat} (h : mm_lk mm_c376 pc = some i) : mm_cd 376 pc = some i := h
theorem mt_376 : mm_MT 376 = (13, 4, some .int, 3, 1, [(0, 9, 12, 21), (0, 9, 15, 13), (0, 9, 18, 15)]) := rfl
def jd_376 (p0 : Option Nat) (p1 : Int) (p2 : Option Nat) (h : jH) : Option (Int × jH) :=
  ((p0).bind fun a1 => ((jck h a1 11).bind fun u3 => jtc (jd_153 a1 p1 h) (fun v6 h8 => ((p2).bind fun a9 => ((jta h8 a9 3 0 (jw v6)).bind fun h11 => some (0, h11)))) (fun E7 h8 => if E7 = 0 then some (2, h8) else if E7 = 1 then some (3, h8) else if E7 = 2 then some (1, h8) else none)))
set_option maxRecDepth 100000 in
theorem ok_376 {L : Nat} {xs : Nat → Int32} {p0 : Option Nat} {p1 : Int} {p2 : Option Nat} {h : jH} {o : (Int × jH)} (e : jd_376 p0 p1 p2 h = some o) : mm_Runs (mm_xt L xs) 4 376 ([jR p0, jI p1, jR p2].map jcv) (jaH h) (.inl (some (jcv (jI o.1)), jaH o.2)) := by
  refine ey_run0 _ mt_376 (jsl_s rfl) ?_
  unfold jd_376 at e
  refine ey_aload_n (cd_376 rfl) rfl ?_
  refine ey_iconst (cd_376 rfl) ?_
  refine ey_aload_n (cd_376 rfl) rfl ?_
  refine ey_iload_n (cd_376 rfl) rfl ?_
  obtain ⟨a1, e2, e⟩ := jbind e
  refine ey_rs (s0 := [jI p1, jR p0, jI 0, jR p2]) (s1 := [jI p1, jR (some a1), jI 0, jR p2]) (by rw [e2]) ?_
  obtain ⟨u3, e4, e⟩ := jbind e
  rcases jtc_c e with ⟨v6, h8, e5, e⟩ | ⟨E7, h8, e5, e⟩
  rotate_left
  · by_cases q15 : E7 = 0
    · rw [if_pos q15] at e
      subst q15
      refine ey_cvH (s0 := [jI p1, jR (some a1), jI 0, jR p2]) (s1 := [jI 0, jR p2]) (cd_376 rfl) mt_376 rfl (cd_376 rfl) rfl rfl mt_153 rfl rfl rfl (jck_s e4) rfl (jsml_s rfl) (ok_153 e5) ?_
      refine ey_iconst (cd_376 rfl) ?_
      cases e
      exact ey_reti (cd_376 rfl) mt_376 rfl
    · rw [if_neg q15] at e
      by_cases q14 : E7 = 1
      · rw [if_pos q14] at e
        subst q14
        refine ey_cvH (s0 := [jI p1, jR (some a1), jI 0, jR p2]) (s1 := [jI 0, jR p2]) (cd_376 rfl) mt_376 rfl (cd_376 rfl) rfl rfl mt_153 rfl rfl rfl (jck_s e4) rfl (jsml_s rfl) (ok_153 e5) ?_
        refine ey_iconst (cd_376 rfl) ?_
        cases e
        exact ey_reti (cd_376 rfl) mt_376 rfl
      · rw [if_neg q14] at e
        by_cases q13 : E7 = 2
        · rw [if_pos q13] at e
          subst q13
          refine ey_cvH (s0 := [jI p1, jR (some a1), jI 0, jR p2]) (s1 := [jI 0, jR p2]) (cd_376 rfl) mt_376 rfl (cd_376 rfl) rfl rfl mt_153 rfl rfl rfl (jck_s e4) rfl (jsml_s rfl) (ok_153 e5) ?_
          refine ey_iconst (cd_376 rfl) ?_
          cases e
          exact ey_reti (cd_376 rfl) mt_376 rfl
        · rw [if_neg q13] at e
          cases e
  refine ey_cv (s0 := [jI p1, jR (some a1), jI 0, jR p2]) (s1 := [jI 0, jR p2]) (st' := [jI v6, jI 0, jR p2]) (cd_376 rfl) mt_376 mt_153 rfl rfl rfl (jck_s e4) rfl (jsml_s rfl) rfl (ok_153 e5) ?_
  refine ey_i2l (cd_376 rfl) ?_
  obtain ⟨a9, e10, e⟩ := jbind e
  refine ey_rs (s0 := [jJ (jw v6), jI 0, jR p2]) (s1 := [jJ (jw v6), jI 0, jR (some a9)]) (by rw [e10]) ?_
  obtain ⟨h11, e12, e⟩ := jbind e
  refine ey_last (cd_376 rfl) e12 ?_
  refine ey_goto (cd_376 rfl) rfl ?_
  refine ey_iconst (cd_376 rfl) ?_
  cases e
  exact ey_reti (cd_376 rfl) mt_376 rfl
theorem cd_377 {pc : Nat} {i : Instr × Nat} (h : mm_lk mm_c377 pc = some i) : mm_cd 377 pc = some i := h
theorem mt_377 : mm_MT 377 = (13, 4, some .int, 3, 1, [(0, 9, 12, 13), (0, 9, 15, 15)]) := rfl
def jd_377 (p0 : Option Nat) (p1 : Int) (p2 : Option Nat) (h : jH) : Option (Int × jH) :=
  ((p0).bind fun a1 => ((jck h a1 11).bind fun u3 => jtc (jd_155 a1 p1 h) (fun v6 h8 => ((p2).bind fun a9 => ((jta h8 a9 3 0 (jw v6)).bind fun h11 => some (0, h11)))) (fun E7 h8 => if E7 = 0 then some (1, h8) else if E7 = 1 then some (2, h8) else none)))
set_option maxRecDepth 100000 in
theorem ok_377 {L : Nat} {xs : Nat → Int32} {p0 : Option Nat} {p1 : Int} {p2 : Option Nat} {h : jH} {o : (Int × jH)} (e : jd_377 p0 p1 p2 h = some o) : mm_Runs (mm_xt L xs) 9 377 ([jR p0, jI p1, jR p2].map jcv) (jaH h) (.inl (some (jcv (jI o.1)), jaH o.2)) := by
  refine ey_run0 _ mt_377 (jsl_s rfl) ?_
  unfold jd_377 at e
  refine ey_aload_n (cd_377 rfl) rfl ?_
  refine ey_iconst (cd_377 rfl) ?_
  refine ey_aload_n (cd_377 rfl) rfl ?_
  refine ey_iload_n (cd_377 rfl) rfl ?_
  obtain ⟨a1, e2, e⟩ := jbind e
  refine ey_rs (s0 := [jI p1, jR p0, jI 0, jR p2]) (s1 := [jI p1, jR (some a1), jI 0, jR p2]) (by rw [e2]) ?_
  obtain ⟨u3, e4, e⟩ := jbind e
  rcases jtc_c e with ⟨v6, h8, e5, e⟩ | ⟨E7, h8, e5, e⟩
  rotate_left
  · by_cases q14 : E7 = 0
    · rw [if_pos q14] at e
      subst q14
      refine ey_cvH (s0 := [jI p1, jR (some a1), jI 0, jR p2]) (s1 := [jI 0, jR p2]) (cd_377 rfl) mt_377 rfl (cd_377 rfl) rfl rfl mt_155 rfl rfl rfl (jck_s e4) rfl (jsml_s rfl) (ok_155 e5) ?_
      refine ey_iconst (cd_377 rfl) ?_
      cases e
      exact ey_reti (cd_377 rfl) mt_377 rfl
    · rw [if_neg q14] at e
      by_cases q13 : E7 = 1
      · rw [if_pos q13] at e
        subst q13
        refine ey_cvH (s0 := [jI p1, jR (some a1), jI 0, jR p2]) (s1 := [jI 0, jR p2]) (cd_377 rfl) mt_377 rfl (cd_377 rfl) rfl rfl mt_155 rfl rfl rfl (jck_s e4) rfl (jsml_s rfl) (ok_155 e5) ?_
        refine ey_iconst (cd_377 rfl) ?_
        cases e
        exact ey_reti (cd_377 rfl) mt_377 rfl
      · rw [if_neg q13] at e
        cases e
  refine ey_cv (s0 := [jI p1, jR (some a1), jI 0, jR p2]) (s1 := [jI 0, jR p2]) (st' := [jI v6, jI 0, jR p2]) (cd_377 rfl) mt_377 mt_155 rfl rfl rfl (jck_s e4) rfl (jsml_s rfl) rfl (ok_155 e5) ?_
  refine ey_i2l (cd_377 rfl) ?_
  obtain ⟨a9, e10, e⟩ := jbind e
  refine ey_rs (s0 := [jJ (jw v6), jI 0, jR p2]) (s1 := [jJ (jw v6), jI 0, jR (some a9)]) (by rw [e10]) ?_
  obtain ⟨h11, e12, e⟩ := jbind e
  refine ey_last (cd_377 rfl) e12 ?_
  refine ey_goto (cd_377 rfl) rfl ?_
  refine ey_iconst (cd_377 rfl) ?_
  cases e
  exact ey_reti (cd_377 rfl) mt_377 rfl
theorem cd_378 {pc : Nat} {i : Instr × Nat} (h : mm_lk mm_c378 pc = some i) : mm_cd 378 pc = some i := h
theorem mt_378 : mm_MT 378 = (13, 3, some .int, 2, 1, [(0, 8, 11, 15)]) := rfl
def jd_378 (p0 : Option Nat) (p1 : Option Nat) (h : jH) : Option (Int × jH) :=
  ((p0).bind fun a1 => ((jck h a1 11).bind fun u3 => jtc (jd_156 a1 h) (fun v6 h8 => ((p1).bind fun a9 => ((jta h8 a9 3 0 (jw v6)).bind fun h11 => some (0, h11)))) (fun E7 h8 => if E7 = 1 then some (1, h8) else none)))
set_option maxRecDepth 100000 in
theorem ok_378 {L : Nat} {xs : Nat → Int32} {p0 : Option Nat} {p1 : Option Nat} {h : jH} {o : (Int × jH)} (e : jd_378 p0 p1 h = some o) : mm_Runs (mm_xt L xs) 9 378 ([jR p0, jR p1].map jcv) (jaH h) (.inl (some (jcv (jI o.1)), jaH o.2)) := by
  refine ey_run0 _ mt_378 (jsl_s rfl) ?_
  unfold jd_378 at e
  refine ey_aload_n (cd_378 rfl) rfl ?_
  refine ey_iconst (cd_378 rfl) ?_
  refine ey_aload_n (cd_378 rfl) rfl ?_
  obtain ⟨a1, e2, e⟩ := jbind e
  refine ey_rs (s0 := [jR p0, jI 0, jR p1]) (s1 := [jR (some a1), jI 0, jR p1]) (by rw [e2]) ?_
  obtain ⟨u3, e4, e⟩ := jbind e
  rcases jtc_c e with ⟨v6, h8, e5, e⟩ | ⟨E7, h8, e5, e⟩
  rotate_left
  · by_cases q13 : E7 = 1
    · rw [if_pos q13] at e
      subst q13
      refine ey_cvH (s0 := [jR (some a1), jI 0, jR p1]) (s1 := [jI 0, jR p1]) (cd_378 rfl) mt_378 rfl (cd_378 rfl) rfl rfl mt_156 rfl rfl rfl (jck_s e4) rfl (jsml_s rfl) (ok_156 e5) ?_
      refine ey_iconst (cd_378 rfl) ?_
      cases e
      exact ey_reti (cd_378 rfl) mt_378 rfl
    · rw [if_neg q13] at e
      cases e
  refine ey_cv (s0 := [jR (some a1), jI 0, jR p1]) (s1 := [jI 0, jR p1]) (st' := [jI v6, jI 0, jR p1]) (cd_378 rfl) mt_378 mt_156 rfl rfl rfl (jck_s e4) rfl (jsml_s rfl) rfl (ok_156 e5) ?_
  refine ey_i2l (cd_378 rfl) ?_
  obtain ⟨a9, e10, e⟩ := jbind e
  refine ey_rs (s0 := [jJ (jw v6), jI 0, jR p1]) (s1 := [jJ (jw v6), jI 0, jR (some a9)]) (by rw [e10]) ?_
  obtain ⟨h11, e12, e⟩ := jbind e
  refine ey_last (cd_378 rfl) e12 ?_
  refine ey_goto (cd_378 rfl) rfl ?_
  refine ey_iconst (cd_378 rfl) ?_
  cases e
  exact ey_reti (cd_378 rfl) mt_378 rfl
theorem cd_379 {pc : Nat} {i : Instr × Nat} (h : mm_lk mm_c379 pc = some i) : mm_cd 379 pc = some i := h
theorem mt_379 : mm_MT 379 = (13, 4, some .int, 3, 1, [(0, 9, 12, 21)]) := rfl
def jd_379 (p0 : Option Nat) (p1 : Int) (p2 : Option Nat) (h : jH) : Option (Int × jH) :=
  ((p0).bind fun a1 => ((jck h a1 11).bind fun u3 => jtc (jd_157 a1 p1 h) (fun v6 h8 => ((p2).bind fun a9 => ((jta h8 a9 3 0 (jw v6)).bind fun h11 => some (0, h11)))) (fun E7 h8 => if E7 = 2 then some (1, h8) else none)))
set_option maxRecDepth 100000 in
theorem ok_379 {L : Nat} {xs : Nat → Int32} {p0 : Option Nat} {p1 : Int} {p2 : Option Nat} {h : jH} {o : (Int × jH)} (e : jd_379 p0 p1 p2 h = some o) : mm_Runs (mm_xt L xs) 3 379 ([jR p0, jI p1, jR p2].map jcv) (jaH h) (.inl (some (jcv (jI o.1)), jaH o.2)) := by
  refine ey_run0 _ mt_379 (jsl_s rfl) ?_
  unfold jd_379 at e
  refine ey_aload_n (cd_379 rfl) rfl ?_
  refine ey_iconst (cd_379 rfl) ?_
  refine ey_aload_n (cd_379 rfl) rfl ?_
  refine ey_iload_n (cd_379 rfl) rfl ?_
  obtain ⟨a1, e2, e⟩ := jbind e
  refine ey_rs (s0 := [jI p1, jR p0, jI 0, jR p2]) (s1 := [jI p1, jR (some a1), jI 0, jR p2]) (by rw [e2]) ?_
  obtain ⟨u3, e4, e⟩ := jbind e
  rcases jtc_c e with ⟨v6, h8, e5, e⟩ | ⟨E7, h8, e5, e⟩
  rotate_left
  · by_cases q13 : E7 = 2
    · rw [if_pos q13] at e
      subst q13
      refine ey_cvH (s0 := [jI p1, jR (some a1), jI 0, jR p2]) (s1 := [jI 0, jR p2]) (cd_379 rfl) mt_379 rfl (cd_379 rfl) rfl rfl mt_157 rfl rfl rfl (jck_s e4) rfl (jsml_s rfl) (ok_157 e5) ?_
      refine ey_iconst (cd_379 rfl) ?_
      cases e
      exact ey_reti (cd_379 rfl) mt_379 rfl
    · rw [if_neg q13] at e
      cases e
  refine ey_cv (s0 := [jI p1, jR (some a1), jI 0, jR p2]) (s1 := [jI 0, jR p2]) (st' := [jI v6, jI 0, jR p2]) (cd_379 rfl) mt_379 mt_157 rfl rfl rfl (jck_s e4) rfl (jsml_s rfl) rfl (ok_157 e5) ?_
  refine ey_i2l (cd_379 rfl) ?_
  obtain ⟨a9, e10, e⟩ := jbind e
  refine ey_rs (s0 := [jJ (jw v6), jI 0, jR p2]) (s1 := [jJ (jw v6), jI 0, jR (some a9)]) (by rw [e10]) ?_
  obtain ⟨h11, e12, e⟩ := jbind e
  refine ey_last (cd_379 rfl) e12 ?_
  refine ey_goto (cd_379 rfl) rfl ?_
  refine ey_iconst (cd_379 rfl) ?_
  cases e
  exact ey_reti (cd_379 rfl) mt_379 rfl
theorem cd_380 {pc : Nat} {i : Instr × Nat} (h : mm_lk mm_c380 pc = some i) : mm_cd 380 pc = some i := h
theorem mt_380 : mm_MT 380 = (13, 5, some .int, 4, 1, [(0, 10, 13, 21), (0, 10, 17, 13)]) := rfl
def jd_380 (p0 : Option Nat) (p1 : Int) (p2 : Int) (p3 : Option Nat) (h : jH) : Option (Int × jH) :=
  ((p0).bind fun a1 => ((jck h a1 11).bind fun u3 => jtc (jd_158 a1 p1 p2 h) (fun v6 h8 => ((p3).bind fun a9 => ((jta h8 a9 3 0 (jw v6)).bind fun h11 => some (0, h11)))) (fun E7 h8 => if E7 = 0 then some (2, h8) else if E7 = 2 then some (1, h8) else none)))
set_option maxRecDepth 100000 in
theorem ok_380 {L : Nat} {xs : Nat → Int32} {p0 : Option Nat} {p1 : Int} {p2 : Int} {p3 : Option Nat} {h : jH} {o : (Int × jH)} (e : jd_380 p0 p1 p2 p3 h = some o) : mm_Runs (mm_xt L xs) 3 380 ([jR p0, jI p1, jI p2, jR p3].map jcv) (jaH h) (.inl (some (jcv (jI o.1)), jaH o.2)) := by
  refine ey_run0 _ mt_380 (jsl_s rfl) ?_
  unfold jd_380 at e
  refine ey_aload_n (cd_380 rfl) rfl ?_
  refine ey_iconst (cd_380 rfl) ?_
  refine ey_aload_n (cd_380 rfl) rfl ?_
  refine ey_iload_n (cd_380 rfl) rfl ?_
  refine ey_iload_n (cd_380 rfl) rfl ?_
  obtain ⟨a1, e2, e⟩ := jbind e
  refine ey_rs (s0 := [jI p2, jI p1, jR p0, jI 0, jR p3]) (s1 := [jI p2, jI p1, jR (some a1), jI 0, jR p3]) (by rw [e2]) ?_
  obtain ⟨u3, e4, e⟩ := jbind e
  rcases jtc_c e with ⟨v6, h8, e5, e⟩ | ⟨E7, h8, e5, e⟩
  rotate_left
  · by_cases q14 : E7 = 0
    · rw [if_pos q14] at e
      subst q14
      refine ey_cvH (s0 := [jI p2, jI p1, jR (some a1), jI 0, jR p3]) (s1 := [jI 0, jR p3]) (cd_380 rfl) mt_380 rfl (cd_380 rfl) rfl rfl mt_158 rfl rfl rfl (jck_s e4) rfl (jsml_s rfl) (ok_158 e5) ?_
      refine ey_iconst (cd_380 rfl) ?_
      cases e
      exact ey_reti (cd_380 rfl) mt_380 rfl
    · rw [if_neg q14] at e
      by_cases q13 : E7 = 2
      · rw [if_pos q13] at e
        subst q13
        refine ey_cvH (s0 := [jI p2, jI p1, jR (some a1), jI 0, jR p3]) (s1 := [jI 0, jR p3]) (cd_380 rfl) mt_380 rfl (cd_380 rfl) rfl rfl mt_158 rfl rfl rfl (jck_s e4) rfl (jsml_s rfl) (ok_158 e5) ?_
        refine ey_iconst (cd_380 rfl) ?_
        cases e
        exact ey_reti (cd_380 rfl) mt_380 rfl
      · rw [if_neg q13] at e
        cases e
  refine ey_cv (s0 := [jI p2, jI p1, jR (some a1), jI 0, jR p3]) (s1 := [jI 0, jR p3]) (st' := [jI v6, jI 0, jR p3]) (cd_380 rfl) mt_380 mt_158 rfl rfl rfl (jck_s e4) rfl (jsml_s rfl) rfl (ok_158 e5) ?_
  refine ey_i2l (cd_380 rfl) ?_
  obtain ⟨a9, e10, e⟩ := jbind e
  refine ey_rs (s0 := [jJ (jw v6), jI 0, jR p3]) (s1 := [jJ (jw v6), jI 0, jR (some a9)]) (by rw [e10]) ?_
  obtain ⟨h11, e12, e⟩ := jbind e
  refine ey_last (cd_380 rfl) e12 ?_
  refine ey_goto (cd_380 rfl) rfl ?_
  refine ey_iconst (cd_380 rfl) ?_
  cases e
  exact ey_reti (cd_380 rfl) mt_380 rfl
theorem cd_381 {pc : Nat} {i : Instr × Nat} (h : mm_lk mm_c381 pc = some i) : mm_cd 381 pc = some i := h
theorem mt_381 : mm_MT 381 = (13, 6, some .int, 5, 1, [(0, 12, 15, 21), (0, 12, 19, 13)]) := rfl
def jd_381 (p0 : Option Nat) (p1 : Int) (p2 : Int) (p3 : Int) (p4 : Option Nat) (h : jH) : Option (Int × jH) :=
  ((p0).bind fun a1 => ((jck h a1 11).bind fun u3 => jtc (jd_159 a1 p1 p2 p3 h) (fun v6 h8 => ((p4).bind fun a9 => ((jta h8 a9 3 0 (jw v6)).bind fun h11 => some (0, h11)))) (fun E7 h8 => if E7 = 0 then some (2, h8) else if E7 = 2 then some (1, h8) else none)))
set_option maxRecDepth 100000 in
theorem ok_381 {L : Nat} {xs : Nat → Int32} {p0 : Option Nat} {p1 : Int} {p2 : Int} {p3 : Int} {p4 : Option Nat} {h : jH} {o : (Int × jH)} (e : jd_381 p0 p1 p2 p3 p4 h = some o) : mm_Runs (mm_xt L xs) 3 381 ([jR p0, jI p1, jI p2, jI p3, jR p4].map jcv) (jaH h) (.inl (some (jcv (jI o.1)), jaH o.2)) := by
  refine ey_run0 _ mt_381 (jsl_s rfl) ?_
  unfold jd_381 at e
  refine ey_aload (cd_381 rfl) rfl ?_
  refine ey_iconst (cd_381 rfl) ?_
  refine ey_aload_n (cd_381 rfl) rfl ?_
  refine ey_iload_n (cd_381 rfl) rfl ?_
  refine ey_iload_n (cd_381 rfl) rfl ?_
  refine ey_iload_n (cd_381 rfl) rfl ?_
  obtain ⟨a1, e2, e⟩ := jbind e
  refine ey_rs (s0 := [jI p3, jI p2, jI p1, jR p0, jI 0, jR p4]) (s1 := [jI p3, jI p2, jI p1, jR (some a1), jI 0, jR p4]) (by rw [e2]) ?_
  obtain ⟨u3, e4, e⟩ := jbind e
  rcases jtc_c e with ⟨v6, h8, e5, e⟩ | ⟨E7, h8, e5, e⟩
  rotate_left
  · by_cases q14 : E7 = 0
    · rw [if_pos q14] at e
      subst q14
      refine ey_cvH (s0 := [jI p3, jI p2, jI p1, jR (some a1), jI 0, jR p4]) (s1 := [jI 0, jR p4]) (cd_381 rfl) mt_381 rfl (cd_381 rfl) rfl rfl mt_159 rfl rfl rfl (jck_s e4) rfl (jsml_s rfl) (ok_159 e5) ?_
      refine ey_iconst (cd_381 rfl) ?_
      cases e
      exact ey_reti (cd_381 rfl) mt_381 rfl
    · rw [if_neg q14] at e
      by_cases q13 : E7 = 2
      · rw [if_pos q13] at e
        subst q13
        refine ey_cvH (s0 := [jI p3, jI p2, jI p1, jR (some a1), jI 0, jR p4]) (s1 := [jI 0, jR p4]) (cd_381 rfl) mt_381 rfl (cd_381 rfl) rfl rfl mt_159 rfl rfl rfl (jck_s e4) rfl (jsml_s rfl) (ok_159 e5) ?_
        refine ey_iconst (cd_381 rfl) ?_
        cases e
        exact ey_reti (cd_381 rfl) mt_381 rfl
      · rw [if_neg q13] at e
        cases e
  refine ey_cv (s0 := [jI p3, jI p2, jI p1, jR (some a1), jI 0, jR p4]) (s1 := [jI 0, jR p4]) (st' := [jI v6, jI 0, jR p4]) (cd_381 rfl) mt_381 mt_159 rfl rfl rfl (jck_s e4) rfl (jsml_s rfl) rfl (ok_159 e5) ?_
  refine ey_i2l (cd_381 rfl) ?_
  obtain ⟨a9, e10, e⟩ := jbind e
  refine ey_rs (s0 := [jJ (jw v6), jI 0, jR p4]) (s1 := [jJ (jw v6), jI 0, jR (some a9)]) (by rw [e10]) ?_
  obtain ⟨h11, e12, e⟩ := jbind e
  refine ey_last (cd_381 rfl) e12 ?_
  refine ey_goto (cd_381 rfl) rfl ?_
  refine ey_iconst (cd_381 rfl) ?_
  cases e
  exact ey_reti (cd_381 rfl) mt_381 rfl
theorem cd_382 {pc : Nat} {i : Instr × Nat} (h : mm_lk mm_c382 pc = some i) : mm_cd 382 pc = some i := h
theorem mt_382 : mm_MT 382 = (13, 7, some .int, 6, 1, [(0, 14, 17, 21), (0, 14, 21, 13)]) := rfl
def jd_382 (p0 : Option Nat) (p1 : Int) (p2 : Int) (p3 : Int) (p4 : Int) (p5 : Option Nat) (h : jH) : Option (Int × jH) :=
  ((p0).bind fun a1 => ((jck h a1 11).bind fun u3 => jtc (jd_160 a1 p1 p2 p3 p4 h) (fun v6 h8 => ((p5).bind fun a9 => ((jta h8 a9 3 0 (jw v6)).bind fun h11 => some (0, h11)))) (fun E7 h8 => if E7 = 0 then some (2, h8) else if E7 = 2 then some (1, h8) else none)))
set_option maxRecDepth 100000 in
theorem ok_382 {L : Nat} {xs : Nat → Int32} {p0 : Option Nat} {p1 : Int} {p2 : Int} {p3 : Int} {p4 : Int} {p5 : Option Nat} {h : jH} {o : (Int × jH)} (e : jd_382 p0 p1 p2 p3 p4 p5 h = some o) : mm_Runs (mm_xt L xs) 4 382 ([jR p0, jI p1, jI p2, jI p3, jI p4, jR p5].map jcv) (jaH h) (.inl (some (jcv (jI o.1)), jaH o.2)) := by
  refine ey_run0 _ mt_382 (jsl_s rfl) ?_
  unfold jd_382 at e
  refine ey_aload (cd_382 rfl) rfl ?_
  refine ey_iconst (cd_382 rfl) ?_
  refine ey_aload_n (cd_382 rfl) rfl ?_
  refine ey_iload_n (cd_382 rfl) rfl ?_
  refine ey_iload_n (cd_382 rfl) rfl ?_
  refine ey_iload_n (cd_382 rfl) rfl ?_
  refine ey_iload (cd_382 rfl) rfl ?_
  obtain ⟨a1, e2, e⟩ := jbind e
  refine ey_rs (s0 := [jI p4, jI p3, jI p2, jI p1, jR p0, jI 0, jR p5]) (s1 := [jI p4, jI p3, jI p2, jI p1, jR (some a1), jI 0, jR p5]) (by rw [e2]) ?_
  obtain ⟨u3, e4, e⟩ := jbind e
  rcases jtc_c e with ⟨v6, h8, e5, e⟩ | ⟨E7, h8, e5, e⟩
  rotate_left
  · by_cases q14 : E7 = 0
    · rw [if_pos q14] at e
      subst q14
      refine ey_cvH (s0 := [jI p4, jI p3, jI p2, jI p1, jR (some a1), jI 0, jR p5]) (s1 := [jI 0, jR p5]) (cd_382 rfl) mt_382 rfl (cd_382 rfl) rfl rfl mt_160 rfl rfl rfl (jck_s e4) rfl (jsml_s rfl) (ok_160 e5) ?_
      refine ey_iconst (cd_382 rfl) ?_
      cases e
      exact ey_reti (cd_382 rfl) mt_382 rfl
    · rw [if_neg q14] at e
      by_cases q13 : E7 = 2
      · rw [if_pos q13] at e
        subst q13
        refine ey_cvH (s0 := [jI p4, jI p3, jI p2, jI p1, jR (some a1), jI 0, jR p5]) (s1 := [jI 0, jR p5]) (cd_382 rfl) mt_382 rfl (cd_382 rfl) rfl rfl mt_160 rfl rfl rfl (jck_s e4) rfl (jsml_s rfl) (ok_160 e5) ?_
        refine ey_iconst (cd_382 rfl) ?_
        cases e
        exact ey_reti (cd_382 rfl) mt_382 rfl
      · rw [if_neg q13] at e
        cases e
  refine ey_cv (s0 := [jI p4, jI p3, jI p2, jI p1, jR (some a1), jI 0, jR p5]) (s1 := [jI 0, jR p5]) (st' := [jI v6, jI 0, jR p5]) (cd_382 rfl) mt_382 mt_160 rfl rfl rfl (jck_s e4) rfl (jsml_s rfl) rfl (ok_160 e5) ?_
  refine ey_i2l (cd_382 rfl) ?_
  obtain ⟨a9, e10, e⟩ := jbind e
  refine ey_rs (s0 := [jJ (jw v6), jI 0, jR p5]) (s1 := [jJ (jw v6), jI 0, jR (some a9)]) (by rw [e10]) ?_
  obtain ⟨h11, e12, e⟩ := jbind e
  refine ey_last (cd_382 rfl) e12 ?_
  refine ey_goto (cd_382 rfl) rfl ?_
  refine ey_iconst (cd_382 rfl) ?_
  cases e
  exact ey_reti (cd_382 rfl) mt_382 rfl
theorem cd_383 {pc : Nat} {i : Instr × Nat} (h : mm_lk mm_c383 pc = some i) : mm_cd 383 pc = some i := h
theorem mt_383 : mm_MT 383 = (13, 8, some .int, 7, 1, [(0, 16, 19, 21)]) := rfl
def jd_383 (p0 : Option Nat) (p1 : Int) (p2 : Int) (p3 : Int) (p4 : Int) (p5 : Int) (p6 : Option Nat) (h : jH) : Option (Int × jH) :=
  ((p0).bind fun a1 => ((jck h a1 11).bind fun u3 => jtc (jd_161 a1 p1 p2 p3 p4 p5 h) (fun v6 h8 => ((p6).bind fun a9 => ((jta h8 a9 3 0 (jw v6)).bind fun h11 => some (0, h11)))) (fun E7 h8 => if E7 = 2 then some (1, h8) else none)))
set_option maxRecDepth 100000 in
theorem ok_383 {L : Nat} {xs : Nat → Int32} {p0 : Option Nat} {p1 : Int} {p2 : Int} {p3 : Int} {p4 : Int} {p5 : Int} {p6 : Option Nat} {h : jH} {o : (Int × jH)} (e : jd_383 p0 p1 p2 p3 p4 p5 p6 h = some o) : mm_Runs (mm_xt L xs) 4 383 ([jR p0, jI p1, jI p2, jI p3, jI p4, jI p5, jR p6].map jcv) (jaH h) (.inl (some (jcv (jI o.1)), jaH o.2)) := by
  refine ey_run0 _ mt_383 (jsl_s rfl) ?_
  unfold jd_383 at e
  refine ey_aload (cd_383 rfl) rfl ?_
  refine ey_iconst (cd_383 rfl) ?_
  refine ey_aload_n (cd_383 rfl) rfl ?_
  refine ey_iload_n (cd_383 rfl) rfl ?_
  refine ey_iload_n (cd_383 rfl) rfl ?_
  refine ey_iload_n (cd_383 rfl) rfl ?_
  refine ey_iload (cd_383 rfl) rfl ?_
  refine ey_iload (cd_383 rfl) rfl ?_
  obtain ⟨a1, e2, e⟩ := jbind e
  refine ey_rs (s0 := [jI p5, jI p4, jI p3, jI p2, jI p1, jR p0, jI 0, jR p6]) (s1 := [jI p5, jI p4, jI p3, jI p2, jI p1, jR (some a1), jI 0, jR p6]) (by rw [e2]) ?_
  obtain ⟨u3, e4, e⟩ := jbind e
  rcases jtc_c e with ⟨v6, h8, e5, e⟩ | ⟨E7, h8, e5, e⟩
  rotate_left
  · by_cases q13 : E7 = 2
    · rw [if_pos q13] at e
      subst q13
      refine ey_cvH (s0 := [jI p5, jI p4, jI p3, jI p2, jI p1, jR (some a1), jI 0, jR p6]) (s1 := [jI 0, jR p6]) (cd_383 rfl) mt_383 rfl (cd_383 rfl) rfl rfl mt_161 rfl rfl rfl (jck_s e4) rfl (jsml_s rfl) (ok_161 e5) ?_
      refine ey_iconst (cd_383 rfl) ?_
      cases e
      exact ey_reti (cd_383 rfl) mt_383 rfl
    · rw [if_neg q13] at e
      cases e
  refine ey_cv (s0 := [jI p5, jI p4, jI p3, jI p2, jI p1, jR (some a1), jI 0, jR p6]) (s1 := [jI 0, jR p6]) (st' := [jI v6, jI 0, jR p6]) (cd_383 rfl) mt_383 mt_161 rfl rfl rfl (jck_s e4) rfl (jsml_s rfl) rfl (ok_161 e5) ?_
  refine ey_i2l (cd_383 rfl) ?_
  obtain ⟨a9, e10, e⟩ := jbind e
  refine ey_rs (s0 := [jJ (jw v6), jI 0, jR p6]) (s1 := [jJ (jw v6), jI 0, jR (some a9)]) (by rw [e10]) ?_
  obtain ⟨h11, e12, e⟩ := jbind e
  refine ey_last (cd_383 rfl) e12 ?_
  refine ey_goto (cd_383 rfl) rfl ?_
  refine ey_iconst (cd_383 rfl) ?_
  cases e
  exact ey_reti (cd_383 rfl) mt_383 rfl
theorem cd_384 {pc : Nat} {i : Instr × Nat} (h : mm_lk mm_c384 pc = some i) : mm_cd 384 pc = some i := h
theorem mt_384 : mm_MT 384 = (13, 8, some .int, 7, 1, [(0, 23, 26, 21)]) := rfl
def jd_384 (p0 : Option Nat) (p1 : Int) (p2 : Int) (p3 : Int) (p4 : Int) (p5 : Int) (p6 : Option Nat) (h : jH) : Option (Int × jH) :=
  ((p0).bind fun a1 => ((jck h a1 11).bind fun u3 => jtc (jd_162 a1 p1 p2 p3 p4 p5 h) (fun v6 h8 => ((p6).bind fun a9 => ((jta h8 a9 3 0 (if (jw v6) = 0 then 0 else 1)).bind fun h11 => some (0, h11)))) (fun E7 h8 => if E7 = 2 then some (1, h8) else none)))
set_option maxRecDepth 100000 in
theorem ok_384 {L : Nat} {xs : Nat → Int32} {p0 : Option Nat} {p1 : Int} {p2 : Int} {p3 : Int} {p4 : Int} {p5 : Int} {p6 : Option Nat} {h : jH} {o : (Int × jH)} (e : jd_384 p0 p1 p2 p3 p4 p5 p6 h = some o) : mm_Runs (mm_xt L xs) 4 384 ([jR p0, jI p1, jI p2, jI p3, jI p4, jI p5, jR p6].map jcv) (jaH h) (.inl (some (jcv (jI o.1)), jaH o.2)) := by
  refine ey_run0 _ mt_384 (jsl_s rfl) ?_
  unfold jd_384 at e
  refine ey_aload (cd_384 rfl) rfl ?_
  refine ey_iconst (cd_384 rfl) ?_
  refine ey_aload_n (cd_384 rfl) rfl ?_
  refine ey_iload_n (cd_384 rfl) rfl ?_
  refine ey_iload_n (cd_384 rfl) rfl ?_
  refine ey_iload_n (cd_384 rfl) rfl ?_
  refine ey_iload (cd_384 rfl) rfl ?_
  refine ey_iload (cd_384 rfl) rfl ?_
  obtain ⟨a1, e2, e⟩ := jbind e
  refine ey_rs (s0 := [jI p5, jI p4, jI p3, jI p2, jI p1, jR p0, jI 0, jR p6]) (s1 := [jI p5, jI p4, jI p3, jI p2, jI p1, jR (some a1), jI 0, jR p6]) (by rw [e2]) ?_
  obtain ⟨u3, e4, e⟩ := jbind e
  rcases jtc_c e with ⟨v6, h8, e5, e⟩ | ⟨E7, h8, e5, e⟩
  rotate_left
  · by_cases q15 : E7 = 2
    · rw [if_pos q15] at e
      subst q15
      refine ey_cvH (s0 := [jI p5, jI p4, jI p3, jI p2, jI p1, jR (some a1), jI 0, jR p6]) (s1 := [jI 0, jR p6]) (cd_384 rfl) mt_384 rfl (cd_384 rfl) rfl rfl mt_162 rfl rfl rfl (jck_s e4) rfl (jsml_s rfl) (ok_162 e5) ?_
      refine ey_iconst (cd_384 rfl) ?_
      cases e
      exact ey_reti (cd_384 rfl) mt_384 rfl
    · rw [if_neg q15] at e
      cases e
  refine ey_cv (s0 := [jI p5, jI p4, jI p3, jI p2, jI p1, jR (some a1), jI 0, jR p6]) (s1 := [jI 0, jR p6]) (st' := [jI v6, jI 0, jR p6]) (cd_384 rfl) mt_384 mt_162 rfl rfl rfl (jck_s e4) rfl (jsml_s rfl) rfl (ok_162 e5) ?_
  have K13 : ∀ lv : jL, ey (mm_xt L xs) 3 384 22 lv [jJ (if (jw v6) = 0 then 0 else 1), jI 0, jR p6] h8 (.inl (some (jcv (jI o.1)), jaH o.2)) := by
    intro lv 
    obtain ⟨a9, e10, e⟩ := jbind e
    refine ey_rs (s0 := [jJ (if (jw v6) = 0 then 0 else 1), jI 0, jR p6]) (s1 := [jJ (if (jw v6) = 0 then 0 else 1), jI 0, jR (some a9)]) (by rw [e10]) ?_
    obtain ⟨h11, e12, e⟩ := jbind e
    refine ey_last (cd_384 rfl) e12 ?_
    refine ey_goto (cd_384 rfl) rfl ?_
    refine ey_iconst (cd_384 rfl) ?_
    cases e
    exact ey_reti (cd_384 rfl) mt_384 rfl
  by_cases q14 : (jw v6) = 0
  · refine ey_zeq (cd_384 rfl) rfl rfl q14 ?_
    refine ey_lconst0 (cd_384 rfl) ?_
    exact ey_rs (s0 := [jJ 0, jI 0, jR p6]) (s1 := [jJ (if (jw v6) = 0 then 0 else 1), jI 0, jR p6]) (by rw [show ((if (jw v6) = 0 then 0 else 1) : Int) = 0 from (if_pos q14)]) (K13 (jlf (jla 0 [jR p0, jI p1, jI p2, jI p3, jI p4, jI p5, jR p6])) )
  · refine ey_yeq (cd_384 rfl) rfl rfl q14 ?_
    refine ey_lconst1 (cd_384 rfl) ?_
    refine ey_goto (cd_384 rfl) rfl ?_
    exact ey_rs (s0 := [jJ 1, jI 0, jR p6]) (s1 := [jJ (if (jw v6) = 0 then 0 else 1), jI 0, jR p6]) (by rw [show ((if (jw v6) = 0 then 0 else 1) : Int) = 1 from (if_neg q14)]) (K13 (jlf (jla 0 [jR p0, jI p1, jI p2, jI p3, jI p4, jI p5, jR p6])) )
theorem cd_385 {pc : Nat} {i : Instr × Nat} (h : mm_lk mm_c385 pc = some i) : mm_cd 385 pc = some i := h
theorem mt_385 : mm_MT 385 = (13, 5, some .int, 4, 1, [(0, 10, 13, 21), (0, 10, 17, 15)]) := rfl
def jd_385 (p0 : Option Nat) (p1 : Int) (p2 : Int) (p3 : Option Nat) (h : jH) : Option (Int × jH) :=
  ((p0).bind fun a1 => ((jck h a1 11).bind fun u3 => jtc (jd_163 a1 p1 p2 h) (fun v6 h8 => ((p3).bind fun a9 => ((jta h8 a9 3 0 (jw v6)).bind fun h11 => some (0, h11)))) (fun E7 h8 => if E7 = 1 then some (2, h8) else if E7 = 2 then some (1, h8) else none)))
set_option maxRecDepth 100000 in
theorem ok_385 {L : Nat} {xs : Nat → Int32} {p0 : Option Nat} {p1 : Int} {p2 : Int} {p3 : Option Nat} {h : jH} {o : (Int × jH)} (e : jd_385 p0 p1 p2 p3 h = some o) : mm_Runs (mm_xt L xs) 4 385 ([jR p0, jI p1, jI p2, jR p3].map jcv) (jaH h) (.inl (some (jcv (jI o.1)), jaH o.2)) := by
  refine ey_run0 _ mt_385 (jsl_s rfl) ?_
  unfold jd_385 at e
  refine ey_aload_n (cd_385 rfl) rfl ?_
  refine ey_iconst (cd_385 rfl) ?_
  refine ey_aload_n (cd_385 rfl) rfl ?_
  refine ey_iload_n (cd_385 rfl) rfl ?_
  refine ey_iload_n (cd_385 rfl) rfl ?_
  obtain ⟨a1, e2, e⟩ := jbind e
  refine ey_rs (s0 := [jI p2, jI p1, jR p0, jI 0, jR p3]) (s1 := [jI p2, jI p1, jR (some a1), jI 0, jR p3]) (by rw [e2]) ?_
  obtain ⟨u3, e4, e⟩ := jbind e
  rcases jtc_c e with ⟨v6, h8, e5, e⟩ | ⟨E7, h8, e5, e⟩
  rotate_left
  · by_cases q14 : E7 = 1
    · rw [if_pos q14] at e
      subst q14
      refine ey_cvH (s0 := [jI p2, jI p1, jR (some a1), jI 0, jR p3]) (s1 := [jI 0, jR p3]) (cd_385 rfl) mt_385 rfl (cd_385 rfl) rfl rfl mt_163 rfl rfl rfl (jck_s e4) rfl (jsml_s rfl) (ok_163 e5) ?_
      refine ey_iconst (cd_385 rfl) ?_
      cases e
      exact ey_reti (cd_385 rfl) mt_385 rfl
    · rw [if_neg q14] at e
      by_cases q13 : E7 = 2
      · rw [if_pos q13] at e
        subst q13
        refine ey_cvH (s0 := [jI p2, jI p1, jR (some a1), jI 0, jR p3]) (s1 := [jI 0, jR p3]) (cd_385 rfl) mt_385 rfl (cd_385 rfl) rfl rfl mt_163 rfl rfl rfl (jck_s e4) rfl (jsml_s rfl) (ok_163 e5) ?_
        refine ey_iconst (cd_385 rfl) ?_
        cases e
        exact ey_reti (cd_385 rfl) mt_385 rfl
      · rw [if_neg q13] at e
        cases e
  refine ey_cv (s0 := [jI p2, jI p1, jR (some a1), jI 0, jR p3]) (s1 := [jI 0, jR p3]) (st' := [jI v6, jI 0, jR p3]) (cd_385 rfl) mt_385 mt_163 rfl rfl rfl (jck_s e4) rfl (jsml_s rfl) rfl (ok_163 e5) ?_
  refine ey_i2l (cd_385 rfl) ?_
  obtain ⟨a9, e10, e⟩ := jbind e
  refine ey_rs (s0 := [jJ (jw v6), jI 0, jR p3]) (s1 := [jJ (jw v6), jI 0, jR (some a9)]) (by rw [e10]) ?_
  obtain ⟨h11, e12, e⟩ := jbind e
  refine ey_last (cd_385 rfl) e12 ?_
  refine ey_goto (cd_385 rfl) rfl ?_
  refine ey_iconst (cd_385 rfl) ?_
  cases e
  exact ey_reti (cd_385 rfl) mt_385 rfl
theorem cd_386 {pc : Nat} {i : Instr × Nat} (h : mm_lk mm_c386 pc = some i) : mm_cd 386 pc = some i := h
theorem mt_386 : mm_MT 386 = (13, 7, some .int, 6, 1, [(0, 14, 17, 21), (0, 14, 21, 13)]) := rfl
def jd_386 (p0 : Option Nat) (p1 : Int) (p2 : Int) (p3 : Int) (p4 : Int) (p5 : Option Nat) (h : jH) : Option (Int × jH) :=
  ((p0).bind fun a1 => ((jck h a1 11).bind fun u3 => jtc (jd_164 a1 p1 p2 p3 p4 h) (fun v6 h8 => ((p5).bind fun a9 => ((jta h8 a9 3 0 (jw v6)).bind fun h11 => some (0, h11)))) (fun E7 h8 => if E7 = 0 then some (2, h8) else if E7 = 2 then some (1, h8) else none)))
set_option maxRecDepth 100000 in
theorem ok_386 {L : Nat} {xs : Nat → Int32} {p0 : Option Nat} {p1 : Int} {p2 : Int} {p3 : Int} {p4 : Int} {p5 : Option Nat} {h : jH} {o : (Int × jH)} (e : jd_386 p0 p1 p2 p3 p4 p5 h = some o) : mm_Runs (mm_xt L xs) 3 386 ([jR p0, jI p1, jI p2, jI p3, jI p4, jR p5].map jcv) (jaH h) (.inl (some (jcv (jI o.1)), jaH o.2)) := by
  refine ey_run0 _ mt_386 (jsl_s rfl) ?_
  unfold jd_386 at e
  refine ey_aload (cd_386 rfl) rfl ?_
  refine ey_iconst (cd_386 rfl) ?_
  refine ey_aload_n (cd_386 rfl) rfl ?_
  refine ey_iload_n (cd_386 rfl) rfl ?_
  refine ey_iload_n (cd_386 rfl) rfl ?_
  refine ey_iload_n (cd_386 rfl) rfl ?_
  refine ey_iload (cd_386 rfl) rfl ?_
  obtain ⟨a1, e2, e⟩ := jbind e
  refine ey_rs (s0 := [jI p4, jI p3, jI p2, jI p1, jR p0, jI 0, jR p5]) (s1 := [jI p4, jI p3, jI p2, jI p1, jR (some a1), jI 0, jR p5]) (by rw [e2]) ?_
  obtain ⟨u3, e4, e⟩ := jbind e
  rcases jtc_c e with ⟨v6, h8, e5, e⟩ | ⟨E7, h8, e5, e⟩
  rotate_left
  · by_cases q14 : E7 = 0
    · rw [if_pos q14] at e
      subst q14
      refine ey_cvH (s0 := [jI p4, jI p3, jI p2, jI p1, jR (some a1), jI 0, jR p5]) (s1 := [jI 0, jR p5]) (cd_386 rfl) mt_386 rfl (cd_386 rfl) rfl rfl mt_164 rfl rfl rfl (jck_s e4) rfl (jsml_s rfl) (ok_164 e5) ?_
      refine ey_iconst (cd_386 rfl) ?_
      cases e
      exact ey_reti (cd_386 rfl) mt_386 rfl
    · rw [if_neg q14] at e
      by_cases q13 : E7 = 2
      · rw [if_pos q13] at e
        subst q13
        refine ey_cvH (s0 := [jI p4, jI p3, jI p2, jI p1, jR (some a1), jI 0, jR p5]) (s1 := [jI 0, jR p5]) (cd_386 rfl) mt_386 rfl (cd_386 rfl) rfl rfl mt_164 rfl rfl rfl (jck_s e4) rfl (jsml_s rfl) (ok_164 e5) ?_
        refine ey_iconst (cd_386 rfl) ?_
        cases e
        exact ey_reti (cd_386 rfl) mt_386 rfl
      · rw [if_neg q13] at e
        cases e
  refine ey_cv (s0 := [jI p4, jI p3, jI p2, jI p1, jR (some a1), jI 0, jR p5]) (s1 := [jI 0, jR p5]) (st' := [jI v6, jI 0, jR p5]) (cd_386 rfl) mt_386 mt_164 rfl rfl rfl (jck_s e4) rfl (jsml_s rfl) rfl (ok_164 e5) ?_
  refine ey_i2l (cd_386 rfl) ?_
  obtain ⟨a9, e10, e⟩ := jbind e
  refine ey_rs (s0 := [jJ (jw v6), jI 0, jR p5]) (s1 := [jJ (jw v6), jI 0, jR (some a9)]) (by rw [e10]) ?_
  obtain ⟨h11, e12, e⟩ := jbind e
  refine ey_last (cd_386 rfl) e12 ?_
  refine ey_goto (cd_386 rfl) rfl ?_
  refine ey_iconst (cd_386 rfl) ?_
  cases e
  exact ey_reti (cd_386 rfl) mt_386 rfl
theorem cd_387 {pc : Nat} {i : Instr × Nat} (h : mm_lk mm_c387 pc = some i) : mm_cd 387 pc = some i := h
theorem mt_387 : mm_MT 387 = (13, 6, some .int, 5, 1, [(0, 12, 15, 21), (0, 12, 19, 13), (0, 12, 23, 15)]) := rfl
def jd_387 (p0 : Option Nat) (p1 : Int) (p2 : Int) (p3 : Int) (p4 : Option Nat) (h : jH) : Option (Int × jH) :=
  ((p0).bind fun a1 => ((jck h a1 11).bind fun u3 => jtc (jd_165 a1 p1 p2 p3 h) (fun v6 h8 => ((p4).bind fun a9 => ((jta h8 a9 3 0 (jw v6)).bind fun h11 => some (0, h11)))) (fun E7 h8 => if E7 = 0 then some (2, h8) else if E7 = 1 then some (3, h8) else if E7 = 2 then some (1, h8) else none)))
set_option maxRecDepth 100000 in
theorem ok_387 {L : Nat} {xs : Nat → Int32} {p0 : Option Nat} {p1 : Int} {p2 : Int} {p3 : Int} {p4 : Option Nat} {h : jH} {o : (Int × jH)} (e : jd_387 p0 p1 p2 p3 p4 h = some o) : mm_Runs (mm_xt L xs) 3 387 ([jR p0, jI p1, jI p2, jI p3, jR p4].map jcv) (jaH h) (.inl (some (jcv (jI o.1)), jaH o.2)) := by
  refine ey_run0 _ mt_387 (jsl_s rfl) ?_
  unfold jd_387 at e
  refine ey_aload (cd_387 rfl) rfl ?_
  refine ey_iconst (cd_387 rfl) ?_
  refine ey_aload_n (cd_387 rfl) rfl ?_
  refine ey_iload_n (cd_387 rfl) rfl ?_
  refine ey_iload_n (cd_387 rfl) rfl ?_
  refine ey_iload_n (cd_387 rfl) rfl ?_
  obtain ⟨a1, e2, e⟩ := jbind e
  refine ey_rs (s0 := [jI p3, jI p2, jI p1, jR p0, jI 0, jR p4]) (s1 := [jI p3, jI p2, jI p1, jR (some a1), jI 0, jR p4]) (by rw [e2]) ?_
  obtain ⟨u3, e4, e⟩ := jbind e
  rcases jtc_c e with ⟨v6, h8, e5, e⟩ | ⟨E7, h8, e5, e⟩
  rotate_left
  · by_cases q15 : E7 = 0
    · rw [if_pos q15] at e
      subst q15
      refine ey_cvH (s0 := [jI p3, jI p2, jI p1, jR (some a1), jI 0, jR p4]) (s1 := [jI 0, jR p4]) (cd_387 rfl) mt_387 rfl (cd_387 rfl) rfl rfl mt_165 rfl rfl rfl (jck_s e4) rfl (jsml_s rfl) (ok_165 e5) ?_
      refine ey_iconst (cd_387 rfl) ?_
      cases e
      exact ey_reti (cd_387 rfl) mt_387 rfl
    · rw [if_neg q15] at e
      by_cases q14 : E7 = 1
      · rw [if_pos q14] at e
        subst q14
        refine ey_cvH (s0 := [jI p3, jI p2, jI p1, jR (some a1), jI 0, jR p4]) (s1 := [jI 0, jR p4]) (cd_387 rfl) mt_387 rfl (cd_387 rfl) rfl rfl mt_165 rfl rfl rfl (jck_s e4) rfl (jsml_s rfl) (ok_165 e5) ?_
        refine ey_iconst (cd_387 rfl) ?_
        cases e
        exact ey_reti (cd_387 rfl) mt_387 rfl
      · rw [if_neg q14] at e
        by_cases q13 : E7 = 2
        · rw [if_pos q13] at e
          subst q13
          refine ey_cvH (s0 := [jI p3, jI p2, jI p1, jR (some a1), jI 0, jR p4]) (s1 := [jI 0, jR p4]) (cd_387 rfl) mt_387 rfl (cd_387 rfl) rfl rfl mt_165 rfl rfl rfl (jck_s e4) rfl (jsml_s rfl) (ok_165 e5) ?_
          refine ey_iconst (cd_387 rfl) ?_
          cases e
          exact ey_reti (cd_387 rfl) mt_387 rfl
        · rw [if_neg q13] at e
          cases e
  refine ey_cv (s0 := [jI p3, jI p2, jI p1, jR (some a1), jI 0, jR p4]) (s1 := [jI 0, jR p4]) (st' := [jI v6, jI 0, jR p4]) (cd_387 rfl) mt_387 mt_165 rfl rfl rfl (jck_s e4) rfl (jsml_s rfl) rfl (ok_165 e5) ?_
  refine ey_i2l (cd_387 rfl) ?_
  obtain ⟨a9, e10, e⟩ := jbind e
  refine ey_rs (s0 := [jJ (jw v6), jI 0, jR p4]) (s1 := [jJ (jw v6), jI 0, jR (some a9)]) (by rw [e10]) ?_
  obtain ⟨h11, e12, e⟩ := jbind e
  refine ey_last (cd_387 rfl) e12 ?_
  refine ey_goto (cd_387 rfl) rfl ?_
  refine ey_iconst (cd_387 rfl) ?_
  cases e
  exact ey_reti (cd_387 rfl) mt_387 rfl
theorem cd_388 {pc : Nat} {i : Instr × Nat} (h : mm_lk mm_c388 pc = some i) : mm_cd 388 pc = some i := h
theorem mt_388 : mm_MT 388 = (13, 3, some .int, 2, 1, [(0, 8, 11, 15)]) := rfl
def jd_388 (p0 : Option Nat) (p1 : Option Nat) (h : jH) : Option (Int × jH) :=
  ((p0).bind fun a1 => ((jck h a1 11).bind fun u3 => jtc (jd_166 a1 h) (fun v6 h8 => ((p1).bind fun a9 => ((jta h8 a9 3 0 (jw v6)).bind fun h11 => some (0, h11)))) (fun E7 h8 => if E7 = 1 then some (1, h8) else none)))
set_option maxRecDepth 100000 in
theorem ok_388 {L : Nat} {xs : Nat → Int32} {p0 : Option Nat} {p1 : Option Nat} {h : jH} {o : (Int × jH)} (e : jd_388 p0 p1 h = some o) : mm_Runs (mm_xt L xs) 9 388 ([jR p0, jR p1].map jcv) (jaH h) (.inl (some (jcv (jI o.1)), jaH o.2)) := by
  refine ey_run0 _ mt_388 (jsl_s rfl) ?_
  unfold jd_388 at e
  refine ey_aload_n (cd_388 rfl) rfl ?_
  refine ey_iconst (cd_388 rfl) ?_
  refine ey_aload_n (cd_388 rfl) rfl ?_
  obtain ⟨a1, e2, e⟩ := jbind e
  refine ey_rs (s0 := [jR p0, jI 0, jR p1]) (s1 := [jR (some a1), jI 0, jR p1]) (by rw [e2]) ?_
  obtain ⟨u3, e4, e⟩ := jbind e
  rcases jtc_c e with ⟨v6, h8, e5, e⟩ | ⟨E7, h8, e5, e⟩
  rotate_left
  · by_cases q13 : E7 = 1
    · rw [if_pos q13] at e
      subst q13
      refine ey_cvH (s0 := [jR (some a1), jI 0, jR p1]) (s1 := [jI 0, jR p1]) (cd_388 rfl) mt_388 rfl (cd_388 rfl) rfl rfl mt_166 rfl rfl rfl (jck_s e4) rfl (jsml_s rfl) (ok_166 e5) ?_
      refine ey_iconst (cd_388 rfl) ?_
      cases e
      exact ey_reti (cd_388 rfl) mt_388 rfl
    · rw [if_neg q13] at e
      cases e
  refine ey_cv (s0 := [jR (some a1), jI 0, jR p1]) (s1 := [jI 0, jR p1]) (st' := [jI v6, jI 0, jR p1]) (cd_388 rfl) mt_388 mt_166 rfl rfl rfl (jck_s e4) rfl (jsml_s rfl) rfl (ok_166 e5) ?_
  refine ey_i2l (cd_388 rfl) ?_
  obtain ⟨a9, e10, e⟩ := jbind e
  refine ey_rs (s0 := [jJ (jw v6), jI 0, jR p1]) (s1 := [jJ (jw v6), jI 0, jR (some a9)]) (by rw [e10]) ?_
  obtain ⟨h11, e12, e⟩ := jbind e
  refine ey_last (cd_388 rfl) e12 ?_
  refine ey_goto (cd_388 rfl) rfl ?_
  refine ey_iconst (cd_388 rfl) ?_
  cases e
  exact ey_reti (cd_388 rfl) mt_388 rfl
theorem cd_389 {pc : Nat} {i : Instr × Nat} (h : mm_lk mm_c389 pc = some i) : mm_cd 389 pc = some i := h
theorem mt_389 : mm_MT 389 = (13, 5, some .int, 4, 1, [(0, 17, 20, 21)]) := rfl
def jd_389 (p0 : Option Nat) (p1 : Int) (p2 : Int) (p3 : Option Nat) (h : jH) : Option (Int × jH) :=
  ((p0).bind fun a1 => ((jck h a1 11).bind fun u3 => jtc (jd_167 a1 p1 p2 h) (fun v6 h8 => ((p3).bind fun a9 => ((jta h8 a9 3 0 (if (jw v6) = 0 then 0 else 1)).bind fun h11 => some (0, h11)))) (fun E7 h8 => if E7 = 2 then some (1, h8) else none)))
set_option maxRecDepth 100000 in
theorem ok_389 {L : Nat} {xs : Nat → Int32} {p0 : Option Nat} {p1 : Int} {p2 : Int} {p3 : Option Nat} {h : jH} {o : (Int × jH)} (e : jd_389 p0 p1 p2 p3 h = some o) : mm_Runs (mm_xt L xs) 3 389 ([jR p0, jI p1, jI p2, jR p3].map jcv) (jaH h) (.inl (some (jcv (jI o.1)), jaH o.2)) := by
  refine ey_run0 _ mt_389 (jsl_s rfl) ?_
  unfold jd_389 at e
  refine ey_aload_n (cd_389 rfl) rfl ?_
  refine ey_iconst (cd_389 rfl) ?_
  refine ey_aload_n (cd_389 rfl) rfl ?_
  refine ey_iload_n (cd_389 rfl) rfl ?_
  refine ey_iload_n (cd_389 rfl) rfl ?_
  obtain ⟨a1, e2, e⟩ := jbind e
  refine ey_rs (s0 := [jI p2, jI p1, jR p0, jI 0, jR p3]) (s1 := [jI p2, jI p1, jR (some a1), jI 0, jR p3]) (by rw [e2]) ?_
  obtain ⟨u3, e4, e⟩ := jbind e
  rcases jtc_c e with ⟨v6, h8, e5, e⟩ | ⟨E7, h8, e5, e⟩
  rotate_left
  · by_cases q15 : E7 = 2
    · rw [if_pos q15] at e
      subst q15
      refine ey_cvH (s0 := [jI p2, jI p1, jR (some a1), jI 0, jR p3]) (s1 := [jI 0, jR p3]) (cd_389 rfl) mt_389 rfl (cd_389 rfl) rfl rfl mt_167 rfl rfl rfl (jck_s e4) rfl (jsml_s rfl) (ok_167 e5) ?_
      refine ey_iconst (cd_389 rfl) ?_
      cases e
      exact ey_reti (cd_389 rfl) mt_389 rfl
    · rw [if_neg q15] at e
      cases e
  refine ey_cv (s0 := [jI p2, jI p1, jR (some a1), jI 0, jR p3]) (s1 := [jI 0, jR p3]) (st' := [jI v6, jI 0, jR p3]) (cd_389 rfl) mt_389 mt_167 rfl rfl rfl (jck_s e4) rfl (jsml_s rfl) rfl (ok_167 e5) ?_
  have K13 : ∀ lv : jL, ey (mm_xt L xs) 2 389 16 lv [jJ (if (jw v6) = 0 then 0 else 1), jI 0, jR p3] h8 (.inl (some (jcv (jI o.1)), jaH o.2)) := by
    intro lv 
    obtain ⟨a9, e10, e⟩ := jbind e
    refine ey_rs (s0 := [jJ (if (jw v6) = 0 then 0 else 1), jI 0, jR p3]) (s1 := [jJ (if (jw v6) = 0 then 0 else 1), jI 0, jR (some a9)]) (by rw [e10]) ?_
    obtain ⟨h11, e12, e⟩ := jbind e
    refine ey_last (cd_389 rfl) e12 ?_
    refine ey_goto (cd_389 rfl) rfl ?_
    refine ey_iconst (cd_389 rfl) ?_
    cases e
    exact ey_reti (cd_389 rfl) mt_389 rfl
  by_cases q14 : (jw v6) = 0
  · refine ey_zeq (cd_389 rfl) rfl rfl q14 ?_
    refine ey_lconst0 (cd_389 rfl) ?_
    exact ey_rs (s0 := [jJ 0, jI 0, jR p3]) (s1 := [jJ (if (jw v6) = 0 then 0 else 1), jI 0, jR p3]) (by rw [show ((if (jw v6) = 0 then 0 else 1) : Int) = 0 from (if_pos q14)]) (K13 (jlf (jla 0 [jR p0, jI p1, jI p2, jR p3])) )
  · refine ey_yeq (cd_389 rfl) rfl rfl q14 ?_
    refine ey_lconst1 (cd_389 rfl) ?_
    refine ey_goto (cd_389 rfl) rfl ?_
    exact ey_rs (s0 := [jJ 1, jI 0, jR p3]) (s1 := [jJ (if (jw v6) = 0 then 0 else 1), jI 0, jR p3]) (by rw [show ((if (jw v6) = 0 then 0 else 1) : Int) = 1 from (if_neg q14)]) (K13 (jlf (jla 0 [jR p0, jI p1, jI p2, jR p3])) )
theorem cd_390 {pc : Nat} {i : Instr × Nat} (h : mm_lk mm_c390 pc = some i) : mm_cd 390 pc = some i := h
theorem mt_390 : mm_MT 390 = (13, 3, some .int, 2, 1, [(0, 8, 11, 15)]) := rfl
def jd_390 (p0 : Option Nat) (p1 : Option Nat) (h : jH) : Option (Int × jH) :=
  ((p0).bind fun a1 => ((jck h a1 11).bind fun u3 => jtc (jd_169 a1 h) (fun v6 h8 => ((p1).bind fun a9 => ((jta h8 a9 3 0 (jw v6)).bind fun h11 => some (0, h11)))) (fun E7 h8 => if E7 = 1 then some (1, h8) else none)))
set_option maxRecDepth 100000 in
theorem ok_390 {L : Nat} {xs : Nat → Int32} {p0 : Option Nat} {p1 : Option Nat} {h : jH} {o : (Int × jH)} (e : jd_390 p0 p1 h = some o) : mm_Runs (mm_xt L xs) 72 390 ([jR p0, jR p1].map jcv) (jaH h) (.inl (some (jcv (jI o.1)), jaH o.2)) := by
  refine ey_run0 _ mt_390 (jsl_s rfl) ?_
  unfold jd_390 at e
  refine ey_aload_n (cd_390 rfl) rfl ?_
  refine ey_iconst (cd_390 rfl) ?_
  refine ey_aload_n (cd_390 rfl) rfl ?_
  obtain ⟨a1, e2, e⟩ := jbind e
  refine ey_rs (s0 := [jR p0, jI 0, jR p1]) (s1 := [jR (some a1), jI 0, jR p1]) (by rw [e2]) ?_
  obtain ⟨u3, e4, e⟩ := jbind e
  rcases jtc_c e with ⟨v6, h8, e5, e⟩ | ⟨E7, h8, e5, e⟩
  rotate_left
  · by_cases q13 : E7 = 1
    · rw [if_pos q13] at e
      subst q13
      refine ey_cvH (s0 := [jR (some a1), jI 0, jR p1]) (s1 := [jI 0, jR p1]) (cd_390 rfl) mt_390 rfl (cd_390 rfl) rfl rfl mt_169 rfl rfl rfl (jck_s e4) rfl (jsml_s rfl) (ok_169 e5) ?_
      refine ey_iconst (cd_390 rfl) ?_
      cases e
      exact ey_reti (cd_390 rfl) mt_390 rfl
    · rw [if_neg q13] at e
      cases e
  refine ey_cv (s0 := [jR (some a1), jI 0, jR p1]) (s1 := [jI 0, jR p1]) (st' := [jI v6, jI 0, jR p1]) (cd_390 rfl) mt_390 mt_169 rfl rfl rfl (jck_s e4) rfl (jsml_s rfl) rfl (ok_169 e5) ?_
  refine ey_i2l (cd_390 rfl) ?_
  obtain ⟨a9, e10, e⟩ := jbind e
  refine ey_rs (s0 := [jJ (jw v6), jI 0, jR p1]) (s1 := [jJ (jw v6), jI 0, jR (some a9)]) (by rw [e10]) ?_
  obtain ⟨h11, e12, e⟩ := jbind e
  refine ey_last (cd_390 rfl) e12 ?_
  refine ey_goto (cd_390 rfl) rfl ?_
  refine ey_iconst (cd_390 rfl) ?_
  cases e
  exact ey_reti (cd_390 rfl) mt_390 rfl
theorem cd_391 {pc : Nat} {i : Instr × Nat} (h : mm_lk mm_c391 pc = some i) : mm_cd 391 pc = some i := h
theorem mt_391 : mm_MT 391 = (13, 6, some .int, 5, 1, [(0, 12, 15, 21), (0, 12, 19, 15)]) := rfl
def jd_391 (p0 : Option Nat) (p1 : Int) (p2 : Int) (p3 : Int) (p4 : Option Nat) (h : jH) : Option (Int × jH) :=
  ((p0).bind fun a1 => ((jck h a1 11).bind fun u3 => jtc (jd_170 a1 p1 p2 p3 h) (fun v6 h8 => ((p4).bind fun a9 => ((jta h8 a9 3 0 (jw v6)).bind fun h11 => some (0, h11)))) (fun E7 h8 => if E7 = 1 then some (2, h8) else if E7 = 2 then some (1, h8) else none)))
set_option maxRecDepth 100000 in
theorem ok_391 {L : Nat} {xs : Nat → Int32} {p0 : Option Nat} {p1 : Int} {p2 : Int} {p3 : Int} {p4 : Option Nat} {h : jH} {o : (Int × jH)} (e : jd_391 p0 p1 p2 p3 p4 h = some o) : mm_Runs (mm_xt L xs) 5 391 ([jR p0, jI p1, jI p2, jI p3, jR p4].map jcv) (jaH h) (.inl (some (jcv (jI o.1)), jaH o.2)) := by
  refine ey_run0 _ mt_391 (jsl_s rfl) ?_
  unfold jd_391 at e
  refine ey_aload (cd_391 rfl) rfl ?_
  refine ey_iconst (cd_391 rfl) ?_
  refine ey_aload_n (cd_391 rfl) rfl ?_
  refine ey_iload_n (cd_391 rfl) rfl ?_
  refine ey_iload_n (cd_391 rfl) rfl ?_
  refine ey_iload_n (cd_391 rfl) rfl ?_
  obtain ⟨a1, e2, e⟩ := jbind e
  refine ey_rs (s0 := [jI p3, jI p2, jI p1, jR p0, jI 0, jR p4]) (s1 := [jI p3, jI p2, jI p1, jR (some a1), jI 0, jR p4]) (by rw [e2]) ?_
  obtain ⟨u3, e4, e⟩ := jbind e
  rcases jtc_c e with ⟨v6, h8, e5, e⟩ | ⟨E7, h8, e5, e⟩
  rotate_left
  · by_cases q14 : E7 = 1
    · rw [if_pos q14] at e
      subst q14
      refine ey_cvH (s0 := [jI p3, jI p2, jI p1, jR (some a1), jI 0, jR p4]) (s1 := [jI 0, jR p4]) (cd_391 rfl) mt_391 rfl (cd_391 rfl) rfl rfl mt_170 rfl rfl rfl (jck_s e4) rfl (jsml_s rfl) (ok_170 e5) ?_
      refine ey_iconst (cd_391 rfl) ?_
      cases e
      exact ey_reti (cd_391 rfl) mt_391 rfl
    · rw [if_neg q14] at e
      by_cases q13 : E7 = 2
      · rw [if_pos q13] at e
        subst q13
        refine ey_cvH (s0 := [jI p3, jI p2, jI p1, jR (some a1), jI 0, jR p4]) (s1 := [jI 0, jR p4]) (cd_391 rfl) mt_391 rfl (cd_391 rfl) rfl rfl mt_170 rfl rfl rfl (jck_s e4) rfl (jsml_s rfl) (ok_170 e5) ?_
        refine ey_iconst (cd_391 rfl) ?_
        cases e
        exact ey_reti (cd_391 rfl) mt_391 rfl
      · rw [if_neg q13] at e
        cases e
  refine ey_cv (s0 := [jI p3, jI p2, jI p1, jR (some a1), jI 0, jR p4]) (s1 := [jI 0, jR p4]) (st' := [jI v6, jI 0, jR p4]) (cd_391 rfl) mt_391 mt_170 rfl rfl rfl (jck_s e4) rfl (jsml_s rfl) rfl (ok_170 e5) ?_
  refine ey_i2l (cd_391 rfl) ?_
  obtain ⟨a9, e10, e⟩ := jbind e
  refine ey_rs (s0 := [jJ (jw v6), jI 0, jR p4]) (s1 := [jJ (jw v6), jI 0, jR (some a9)]) (by rw [e10]) ?_
  obtain ⟨h11, e12, e⟩ := jbind e
  refine ey_last (cd_391 rfl) e12 ?_
  refine ey_goto (cd_391 rfl) rfl ?_
  refine ey_iconst (cd_391 rfl) ?_
  cases e
  exact ey_reti (cd_391 rfl) mt_391 rfl
theorem cd_392 {pc : Nat} {i : Instr × Nat} (h : mm_lk mm_c392 pc = some i) : mm_cd 392 pc = some i := h
theorem mt_392 : mm_MT 392 = (13, 6, some .int, 5, 1, [(0, 12, 15, 21), (0, 12, 19, 13)]) := rfl
def jd_392 (p0 : Option Nat) (p1 : Int) (p2 : Int) (p3 : Int) (p4 : Option Nat) (h : jH) : Option (Int × jH) :=
  ((p0).bind fun a1 => ((jck h a1 11).bind fun u3 => jtc (jd_171 a1 p1 p2 p3 h) (fun v6 h8 => ((p4).bind fun a9 => ((jta h8 a9 3 0 (jw v6)).bind fun h11 => some (0, h11)))) (fun E7 h8 => if E7 = 0 then some (2, h8) else if E7 = 2 then some (1, h8) else none)))
set_option maxRecDepth 100000 in
theorem ok_392 {L : Nat} {xs : Nat → Int32} {p0 : Option Nat} {p1 : Int} {p2 : Int} {p3 : Int} {p4 : Option Nat} {h : jH} {o : (Int × jH)} (e : jd_392 p0 p1 p2 p3 p4 h = some o) : mm_Runs (mm_xt L xs) 4 392 ([jR p0, jI p1, jI p2, jI p3, jR p4].map jcv) (jaH h) (.inl (some (jcv (jI o.1)), jaH o.2)) := by
  refine ey_run0 _ mt_392 (jsl_s rfl) ?_
  unfold jd_392 at e
  refine ey_aload (cd_392 rfl) rfl ?_
  refine ey_iconst (cd_392 rfl) ?_
  refine ey_aload_n (cd_392 rfl) rfl ?_
  refine ey_iload_n (cd_392 rfl) rfl ?_
  refine ey_iload_n (cd_392 rfl) rfl ?_
  refine ey_iload_n (cd_392 rfl) rfl ?_
  obtain ⟨a1, e2, e⟩ := jbind e
  refine ey_rs (s0 := [jI p3, jI p2, jI p1, jR p0, jI 0, jR p4]) (s1 := [jI p3, jI p2, jI p1, jR (some a1), jI 0, jR p4]) (by rw [e2]) ?_
  obtain ⟨u3, e4, e⟩ := jbind e
  rcases jtc_c e with ⟨v6, h8, e5, e⟩ | ⟨E7, h8, e5, e⟩
  rotate_left
  · by_cases q14 : E7 = 0
    · rw [if_pos q14] at e
      subst q14
      refine ey_cvH (s0 := [jI p3, jI p2, jI p1, jR (some a1), jI 0, jR p4]) (s1 := [jI 0, jR p4]) (cd_392 rfl) mt_392 rfl (cd_392 rfl) rfl rfl mt_171 rfl rfl rfl (jck_s e4) rfl (jsml_s rfl) (ok_171 e5) ?_
      refine ey_iconst (cd_392 rfl) ?_
      cases e
      exact ey_reti (cd_392 rfl) mt_392 rfl
    · rw [if_neg q14] at e
      by_cases q13 : E7 = 2
      · rw [if_pos q13] at e
        subst q13
        refine ey_cvH (s0 := [jI p3, jI p2, jI p1, jR (some a1), jI 0, jR p4]) (s1 := [jI 0, jR p4]) (cd_392 rfl) mt_392 rfl (cd_392 rfl) rfl rfl mt_171 rfl rfl rfl (jck_s e4) rfl (jsml_s rfl) (ok_171 e5) ?_
        refine ey_iconst (cd_392 rfl) ?_
        cases e
        exact ey_reti (cd_392 rfl) mt_392 rfl
      · rw [if_neg q13] at e
        cases e
  refine ey_cv (s0 := [jI p3, jI p2, jI p1, jR (some a1), jI 0, jR p4]) (s1 := [jI 0, jR p4]) (st' := [jI v6, jI 0, jR p4]) (cd_392 rfl) mt_392 mt_171 rfl rfl rfl (jck_s e4) rfl (jsml_s rfl) rfl (ok_171 e5) ?_
  refine ey_i2l (cd_392 rfl) ?_
  obtain ⟨a9, e10, e⟩ := jbind e
  refine ey_rs (s0 := [jJ (jw v6), jI 0, jR p4]) (s1 := [jJ (jw v6), jI 0, jR (some a9)]) (by rw [e10]) ?_
  obtain ⟨h11, e12, e⟩ := jbind e
  refine ey_last (cd_392 rfl) e12 ?_
  refine ey_goto (cd_392 rfl) rfl ?_
  refine ey_iconst (cd_392 rfl) ?_
  cases e
  exact ey_reti (cd_392 rfl) mt_392 rfl
theorem cd_393 {pc : Nat} {i : Instr × Nat} (h : mm_lk mm_c393 pc = some i) : mm_cd 393 pc = some i := h
theorem mt_393 : mm_MT 393 = (13, 5, some .int, 4, 1, [(0, 17, 20, 21)]) := rfl
def jd_393 (p0 : Option Nat) (p1 : Int) (p2 : Int) (p3 : Option Nat) (h : jH) : Option (Int × jH) :=
  ((p0).bind fun a1 => ((jck h a1 11).bind fun u3 => jtc (jd_172 a1 p1 p2 h) (fun v6 h8 => ((p3).bind fun a9 => ((jta h8 a9 3 0 (if (jw v6) = 0 then 0 else 1)).bind fun h11 => some (0, h11)))) (fun E7 h8 => if E7 = 2 then some (1, h8) else none)))
set_option maxRecDepth 100000 in
theorem ok_393 {L : Nat} {xs : Nat → Int32} {p0 : Option Nat} {p1 : Int} {p2 : Int} {p3 : Option Nat} {h : jH} {o : (Int × jH)} (e : jd_393 p0 p1 p2 p3 h = some o) : mm_Runs (mm_xt L xs) 4 393 ([jR p0, jI p1, jI p2, jR p3].map jcv) (jaH h) (.inl (some (jcv (jI o.1)), jaH o.2)) := by
  refine ey_run0 _ mt_393 (jsl_s rfl) ?_
  unfold jd_393 at e
  refine ey_aload_n (cd_393 rfl) rfl ?_
  refine ey_iconst (cd_393 rfl) ?_
  refine ey_aload_n (cd_393 rfl) rfl ?_
  refine ey_iload_n (cd_393 rfl) rfl ?_
  refine ey_iload_n (cd_393 rfl) rfl ?_
  obtain ⟨a1, e2, e⟩ := jbind e
  refine ey_rs (s0 := [jI p2, jI p1, jR p0, jI 0, jR p3]) (s1 := [jI p2, jI p1, jR (some a1), jI 0, jR p3]) (by rw [e2]) ?_
  obtain ⟨u3, e4, e⟩ := jbind e
  rcases jtc_c e with ⟨v6, h8, e5, e⟩ | ⟨E7, h8, e5, e⟩
  rotate_left
  · by_cases q15 : E7 = 2
    · rw [if_pos q15] at e
      subst q15
      refine ey_cvH (s0 := [jI p2, jI p1, jR (some a1), jI 0, jR p3]) (s1 := [jI 0, jR p3]) (cd_393 rfl) mt_393 rfl (cd_393 rfl) rfl rfl mt_172 rfl rfl rfl (jck_s e4) rfl (jsml_s rfl) (ok_172 e5) ?_
      refine ey_iconst (cd_393 rfl) ?_
      cases e
      exact ey_reti (cd_393 rfl) mt_393 rfl
    · rw [if_neg q15] at e
      cases e
  refine ey_cv (s0 := [jI p2, jI p1, jR (some a1), jI 0, jR p3]) (s1 := [jI 0, jR p3]) (st' := [jI v6, jI 0, jR p3]) (cd_393 rfl) mt_393 mt_172 rfl rfl rfl (jck_s e4) rfl (jsml_s rfl) rfl (ok_172 e5) ?_
  have K13 : ∀ lv : jL, ey (mm_xt L xs) 3 393 16 lv [jJ (if (jw v6) = 0 then 0 else 1), jI 0, jR p3] h8 (.inl (some (jcv (jI o.1)), jaH o.2)) := by
    intro lv 
    obtain ⟨a9, e10, e⟩ := jbind e
    refine ey_rs (s0 := [jJ (if (jw v6) = 0 then 0 else 1), jI 0, jR p3]) (s1 := [jJ (if (jw v6) = 0 then 0 else 1), jI 0, jR (some a9)]) (by rw [e10]) ?_
    obtain ⟨h11, e12, e⟩ := jbind e
    refine ey_last (cd_393 rfl) e12 ?_
    refine ey_goto (cd_393 rfl) rfl ?_
    refine ey_iconst (cd_393 rfl) ?_
    cases e
    exact ey_reti (cd_393 rfl) mt_393 rfl
  by_cases q14 : (jw v6) = 0
  · refine ey_zeq (cd_393 rfl) rfl rfl q14 ?_
    refine ey_lconst0 (cd_393 rfl) ?_
    exact ey_rs (s0 := [jJ 0, jI 0, jR p3]) (s1 := [jJ (if (jw v6) = 0 then 0 else 1), jI 0, jR p3]) (by rw [show ((if (jw v6) = 0 then 0 else 1) : Int) = 0 from (if_pos q14)]) (K13 (jlf (jla 0 [jR p0, jI p1, jI p2, jR p3])) )
  · refine ey_yeq (cd_393 rfl) rfl rfl q14 ?_
    refine ey_lconst1 (cd_393 rfl) ?_
    refine ey_goto (cd_393 rfl) rfl ?_
    exact ey_rs (s0 := [jJ 1, jI 0, jR p3]) (s1 := [jJ (if (jw v6) = 0 then 0 else 1), jI 0, jR p3]) (by rw [show ((if (jw v6) = 0 then 0 else 1) : Int) = 1 from (if_neg q14)]) (K13 (jlf (jla 0 [jR p0, jI p1, jI p2, jR p3])) )
theorem cd_394 {pc : Nat} {i : Instr × Nat} (h : mm_lk mm_c394 pc = some i) : mm_cd 394 pc = some i := h
theorem mt_394 : mm_MT 394 = (13, 5, some .int, 4, 1, [(0, 10, 13, 21)]) := rfl
def jd_394 (p0 : Option Nat) (p1 : Int) (p2 : Int) (p3 : Option Nat) (h : jH) : Option (Int × jH) :=
  ((p0).bind fun a1 => ((jck h a1 11).bind fun u3 => jtc (jd_173 a1 p1 p2 h) (fun v6 h8 => ((p3).bind fun a9 => ((jta h8 a9 3 0 (jw v6)).bind fun h11 => some (0, h11)))) (fun E7 h8 => if E7 = 2 then some (1, h8) else none)))
set_option maxRecDepth 100000 in
theorem ok_394 {L : Nat} {xs : Nat → Int32} {p0 : Option Nat} {p1 : Int} {p2 : Int} {p3 : Option Nat} {h : jH} {o : (Int × jH)} (e : jd_394 p0 p1 p2 p3 h = some o) : mm_Runs (mm_xt L xs) 4 394 ([jR p0, jI p1, jI p2, jR p3].map jcv) (jaH h) (.inl (some (jcv (jI o.1)), jaH o.2)) := by
  refine ey_run0 _ mt_394 (jsl_s rfl) ?_
  unfold jd_394 at e
  refine ey_aload_n (cd_394 rfl) rfl ?_
  refine ey_iconst (cd_394 rfl) ?_
  refine ey_aload_n (cd_394 rfl) rfl ?_
  refine ey_iload_n (cd_394 rfl) rfl ?_
  refine ey_iload_n (cd_394 rfl) rfl ?_
  obtain ⟨a1, e2, e⟩ := jbind e
  refine ey_rs (s0 := [jI p2, jI p1, jR p0, jI 0, jR p3]) (s1 := [jI p2, jI p1, jR (some a1), jI 0, jR p3]) (by rw [e2]) ?_
  obtain ⟨u3, e4, e⟩ := jbind e
  rcases jtc_c e with ⟨v6, h8, e5, e⟩ | ⟨E7, h8, e5, e⟩
  rotate_left
  · by_cases q13 : E7 = 2
    · rw [if_pos q13] at e
      subst q13
      refine ey_cvH (s0 := [jI p2, jI p1, jR (some a1), jI 0, jR p3]) (s1 := [jI 0, jR p3]) (cd_394 rfl) mt_394 rfl (cd_394 rfl) rfl rfl mt_173 rfl rfl rfl (jck_s e4) rfl (jsml_s rfl) (ok_173 e5) ?_
      refine ey_iconst (cd_394 rfl) ?_
      cases e
      exact ey_reti (cd_394 rfl) mt_394 rfl
    · rw [if_neg q13] at e
      cases e
  refine ey_cv (s0 := [jI p2, jI p1, jR (some a1), jI 0, jR p3]) (s1 := [jI 0, jR p3]) (st' := [jI v6, jI 0, jR p3]) (cd_394 rfl) mt_394 mt_173 rfl rfl rfl (jck_s e4) rfl (jsml_s rfl) rfl (ok_173 e5) ?_
  refine ey_i2l (cd_394 rfl) ?_
  obtain ⟨a9, e10, e⟩ := jbind e
  refine ey_rs (s0 := [jJ (jw v6), jI 0, jR p3]) (s1 := [jJ (jw v6), jI 0, jR (some a9)]) (by rw [e10]) ?_
  obtain ⟨h11, e12, e⟩ := jbind e
  refine ey_last (cd_394 rfl) e12 ?_
  refine ey_goto (cd_394 rfl) rfl ?_
  refine ey_iconst (cd_394 rfl) ?_
  cases e
  exact ey_reti (cd_394 rfl) mt_394 rfl
theorem cd_395 {pc : Nat} {i : Instr × Nat} (h : mm_lk mm_c395 pc = some i) : mm_cd 395 pc = some i := h
theorem mt_395 : mm_MT 395 = (13, 7, some .int, 6, 1, [(0, 14, 17, 21), (0, 14, 21, 13)]) := rfl
def jd_395 (p0 : Option Nat) (p1 : Int) (p2 : Int) (p3 : Int) (p4 : Int) (p5 : Option Nat) (h : jH) : Option (Int × jH) :=
  ((p0).bind fun a1 => ((jck h a1 11).bind fun u3 => jtc (jd_174 a1 p1 p2 p3 p4 h) (fun v6 h8 => ((p5).bind fun a9 => ((jta h8 a9 3 0 (jw v6)).bind fun h11 => some (0, h11)))) (fun E7 h8 => if E7 = 0 then some (2, h8) else if E7 = 2 then some (1, h8) else none)))
set_option maxRecDepth 100000 in
theorem ok_395 {L : Nat} {xs : Nat → Int32} {p0 : Option Nat} {p1 : Int} {p2 : Int} {p3 : Int} {p4 : Int} {p5 : Option Nat} {h : jH} {o : (Int × jH)} (e : jd_395 p0 p1 p2 p3 p4 p5 h = some o) : mm_Runs (mm_xt L xs) 6 395 ([jR p0, jI p1, jI p2, jI p3, jI p4, jR p5].map jcv) (jaH h) (.inl (some (jcv (jI o.1)), jaH o.2)) := by
  refine ey_run0 _ mt_395 (jsl_s rfl) ?_
  unfold jd_395 at e
  refine ey_aload (cd_395 rfl) rfl ?_
  refine ey_iconst (cd_395 rfl) ?_
  refine ey_aload_n (cd_395 rfl) rfl ?_
  refine ey_iload_n (cd_395 rfl) rfl ?_
  refine ey_iload_n (cd_395 rfl) rfl ?_
  refine ey_iload_n (cd_395 rfl) rfl ?_
  refine ey_iload (cd_395 rfl) rfl ?_
  obtain ⟨a1, e2, e⟩ := jbind e
  refine ey_rs (s0 := [jI p4, jI p3, jI p2, jI p1, jR p0, jI 0, jR p5]) (s1 := [jI p4, jI p3, jI p2, jI p1, jR (some a1), jI 0, jR p5]) (by rw [e2]) ?_
  obtain ⟨u3, e4, e⟩ := jbind e
  rcases jtc_c e with ⟨v6, h8, e5, e⟩ | ⟨E7, h8, e5, e⟩
  rotate_left
  · by_cases q14 : E7 = 0
    · rw [if_pos q14] at e
      subst q14
      refine ey_cvH (s0 := [jI p4, jI p3, jI p2, jI p1, jR (some a1), jI 0, jR p5]) (s1 := [jI 0, jR p5]) (cd_395 rfl) mt_395 rfl (cd_395 rfl) rfl rfl mt_174 rfl rfl rfl (jck_s e4) rfl (jsml_s rfl) (ok_174 e5) ?_
      refine ey_iconst (cd_395 rfl) ?_
      cases e
      exact ey_reti (cd_395 rfl) mt_395 rfl
    · rw [if_neg q14] at e
      by_cases q13 : E7 = 2
      · rw [if_pos q13] at e
        subst q13
        refine ey_cvH (s0 := [jI p4, jI p3, jI p2, jI p1, jR (some a1), jI 0, jR p5]) (s1 := [jI 0, jR p5]) (cd_395 rfl) mt_395 rfl (cd_395 rfl) rfl rfl mt_174 rfl rfl rfl (jck_s e4) rfl (jsml_s rfl) (ok_174 e5) ?_
        refine ey_iconst (cd_395 rfl) ?_
        cases e
        exact ey_reti (cd_395 rfl) mt_395 rfl
      · rw [if_neg q13] at e
        cases e
  refine ey_cv (s0 := [jI p4, jI p3, jI p2, jI p1, jR (some a1), jI 0, jR p5]) (s1 := [jI 0, jR p5]) (st' := [jI v6, jI 0, jR p5]) (cd_395 rfl) mt_395 mt_174 rfl rfl rfl (jck_s e4) rfl (jsml_s rfl) rfl (ok_174 e5) ?_
  refine ey_i2l (cd_395 rfl) ?_
  obtain ⟨a9, e10, e⟩ := jbind e
  refine ey_rs (s0 := [jJ (jw v6), jI 0, jR p5]) (s1 := [jJ (jw v6), jI 0, jR (some a9)]) (by rw [e10]) ?_
  obtain ⟨h11, e12, e⟩ := jbind e
  refine ey_last (cd_395 rfl) e12 ?_
  refine ey_goto (cd_395 rfl) rfl ?_
  refine ey_iconst (cd_395 rfl) ?_
  cases e
  exact ey_reti (cd_395 rfl) mt_395 rfl
theorem cd_396 {pc : Nat} {i : Instr × Nat} (h : mm_lk mm_c396 pc = some i) : mm_cd 396 pc = some i := h
theorem mt_396 : mm_MT 396 = (13, 6, some .int, 5, 1, [(0, 9, 12, 21), (0, 9, 16, 13)]) := rfl
def jd_396 (p0 : Option Nat) (p1 : Int) (p2 : Int) (p3 : Int) (p4 : Int) (h : jH) : Option (Int × jH) :=
  ((p0).bind fun a1 => ((jck h a1 11).bind fun u3 => jtc (jd_175 a1 p1 p2 p3 p4 h) (fun v6 h8 => some (0, h8)) (fun E7 h8 => if E7 = 0 then some (2, h8) else if E7 = 2 then some (1, h8) else none)))
set_option maxRecDepth 100000 in
theorem ok_396 {L : Nat} {xs : Nat → Int32} {p0 : Option Nat} {p1 : Int} {p2 : Int} {p3 : Int} {p4 : Int} {h : jH} {o : (Int × jH)} (e : jd_396 p0 p1 p2 p3 p4 h = some o) : mm_Runs (mm_xt L xs) 4 396 ([jR p0, jI p1, jI p2, jI p3, jI p4].map jcv) (jaH h) (.inl (some (jcv (jI o.1)), jaH o.2)) := by
  refine ey_run0 _ mt_396 (jsl_s rfl) ?_
  unfold jd_396 at e
  refine ey_aload_n (cd_396 rfl) rfl ?_
  refine ey_iload_n (cd_396 rfl) rfl ?_
  refine ey_iload_n (cd_396 rfl) rfl ?_
  refine ey_iload_n (cd_396 rfl) rfl ?_
  refine ey_iload (cd_396 rfl) rfl ?_
  obtain ⟨a1, e2, e⟩ := jbind e
  refine ey_rs (s0 := [jI p4, jI p3, jI p2, jI p1, jR p0]) (s1 := [jI p4, jI p3, jI p2, jI p1, jR (some a1)]) (by rw [e2]) ?_
  obtain ⟨u3, e4, e⟩ := jbind e
  rcases jtc_c e with ⟨v6, h8, e5, e⟩ | ⟨E7, h8, e5, e⟩
  rotate_left
  · by_cases q10 : E7 = 0
    · rw [if_pos q10] at e
      subst q10
      refine ey_cvH (s0 := [jI p4, jI p3, jI p2, jI p1, jR (some a1)]) (s1 := []) (cd_396 rfl) mt_396 rfl (cd_396 rfl) rfl rfl mt_175 rfl rfl rfl (jck_s e4) rfl (jsml_s rfl) (ok_175 e5) ?_
      refine ey_iconst (cd_396 rfl) ?_
      cases e
      exact ey_reti (cd_396 rfl) mt_396 rfl
    · rw [if_neg q10] at e
      by_cases q9 : E7 = 2
      · rw [if_pos q9] at e
        subst q9
        refine ey_cvH (s0 := [jI p4, jI p3, jI p2, jI p1, jR (some a1)]) (s1 := []) (cd_396 rfl) mt_396 rfl (cd_396 rfl) rfl rfl mt_175 rfl rfl rfl (jck_s e4) rfl (jsml_s rfl) (ok_175 e5) ?_
        refine ey_iconst (cd_396 rfl) ?_
        cases e
        exact ey_reti (cd_396 rfl) mt_396 rfl
      · rw [if_neg q9] at e
        cases e
  refine ey_cv (s0 := [jI p4, jI p3, jI p2, jI p1, jR (some a1)]) (s1 := []) (st' := []) (cd_396 rfl) mt_396 mt_175 rfl rfl rfl (jck_s e4) rfl (jsml_s rfl) rfl (ok_175 e5) ?_
  refine ey_goto (cd_396 rfl) rfl ?_
  refine ey_iconst (cd_396 rfl) ?_
  cases e
  exact ey_reti (cd_396 rfl) mt_396 rfl
theorem cd_397 {pc : Nat} {i : Instr × Nat} (h : mm_lk mm_c397 pc = some i) : mm_cd 397 pc = some i := h
theorem mt_397 : mm_MT 397 = (13, 4, some .int, 3, 1, [(0, 9, 12, 21), (0, 9, 15, 15)]) := rfl
def jd_397 (p0 : Option Nat) (p1 : Int) (p2 : Option Nat) (h : jH) : Option (Int × jH) :=
  ((p0).bind fun a1 => ((jck h a1 11).bind fun u3 => jtc (jd_176 a1 p1 h) (fun v6 h8 => ((p2).bind fun a9 => ((jta h8 a9 3 0 (jw v6)).bind fun h11 => some (0, h11)))) (fun E7 h8 => if E7 = 1 then some (2, h8) else if E7 = 2 then some (1, h8) else none)))
set_option maxRecDepth 100000 in
theorem ok_397 {L : Nat} {xs : Nat → Int32} {p0 : Option Nat} {p1 : Int} {p2 : Option Nat} {h : jH} {o : (Int × jH)} (e : jd_397 p0 p1 p2 h = some o) : mm_Runs (mm_xt L xs) 9 397 ([jR p0, jI p1, jR p2].map jcv) (jaH h) (.inl (some (jcv (jI o.1)), jaH o.2)) := by
  refine ey_run0 _ mt_397 (jsl_s rfl) ?_
  unfold jd_397 at e
  refine ey_aload_n (cd_397 rfl) rfl ?_
  refine ey_iconst (cd_397 rfl) ?_
  refine ey_aload_n (cd_397 rfl) rfl ?_
  refine ey_iload_n (cd_397 rfl) rfl ?_
  obtain ⟨a1, e2, e⟩ := jbind e
  refine ey_rs (s0 := [jI p1, jR p0, jI 0, jR p2]) (s1 := [jI p1, jR (some a1), jI 0, jR p2]) (by rw [e2]) ?_
  obtain ⟨u3, e4, e⟩ := jbind e
  rcases jtc_c e with ⟨v6, h8, e5, e⟩ | ⟨E7, h8, e5, e⟩
  rotate_left
  · by_cases q14 : E7 = 1
    · rw [if_pos q14] at e
      subst q14
      refine ey_cvH (s0 := [jI p1, jR (some a1), jI 0, jR p2]) (s1 := [jI 0, jR p2]) (cd_397 rfl) mt_397 rfl (cd_397 rfl) rfl rfl mt_176 rfl rfl rfl (jck_s e4) rfl (jsml_s rfl) (ok_176 e5) ?_
      refine ey_iconst (cd_397 rfl) ?_
      cases e
      exact ey_reti (cd_397 rfl) mt_397 rfl
    · rw [if_neg q14] at e
      by_cases q13 : E7 = 2
      · rw [if_pos q13] at e
        subst q13
        refine ey_cvH (s0 := [jI p1, jR (some a1), jI 0, jR p2]) (s1 := [jI 0, jR p2]) (cd_397 rfl) mt_397 rfl (cd_397 rfl) rfl rfl mt_176 rfl rfl rfl (jck_s e4) rfl (jsml_s rfl) (ok_176 e5) ?_
        refine ey_iconst (cd_397 rfl) ?_
        cases e
        exact ey_reti (cd_397 rfl) mt_397 rfl
      · rw [if_neg q13] at e
        cases e
  refine ey_cv (s0 := [jI p1, jR (some a1), jI 0, jR p2]) (s1 := [jI 0, jR p2]) (st' := [jI v6, jI 0, jR p2]) (cd_397 rfl) mt_397 mt_176 rfl rfl rfl (jck_s e4) rfl (jsml_s rfl) rfl (ok_176 e5) ?_
  refine ey_i2l (cd_397 rfl) ?_
  obtain ⟨a9, e10, e⟩ := jbind e
  refine ey_rs (s0 := [jJ (jw v6), jI 0, jR p2]) (s1 := [jJ (jw v6), jI 0, jR (some a9)]) (by rw [e10]) ?_
  obtain ⟨h11, e12, e⟩ := jbind e
  refine ey_last (cd_397 rfl) e12 ?_
  refine ey_goto (cd_397 rfl) rfl ?_
  refine ey_iconst (cd_397 rfl) ?_
  cases e
  exact ey_reti (cd_397 rfl) mt_397 rfl
theorem cd_398 {pc : Nat} {i : Instr × Nat} (h : mm_lk mm_c398 pc = some i) : mm_cd 398 pc = some i := h
theorem mt_398 : mm_MT 398 = (13, 4, some .int, 3, 1, [(0, 6, 9, 21), (0, 6, 12, 15)]) := rfl
def jd_398 (p0 : Option Nat) (p1 : Int) (p2 : Int) (h : jH) : Option (Int × jH) :=
  ((p0).bind fun a1 => ((jck h a1 11).bind fun u3 => jtc (jd_177 a1 p1 p2 h) (fun v6 h8 => some (0, h8)) (fun E7 h8 => if E7 = 1 then some (2, h8) else if E7 = 2 then some (1, h8) else none)))
set_option maxRecDepth 100000 in
theorem ok_398 {L : Nat} {xs : Nat → Int32} {p0 : Option Nat} {p1 : Int} {p2 : Int} {h : jH} {o : (Int × jH)} (e : jd_398 p0 p1 p2 h = some o) : mm_Runs (mm_xt L xs) 4 398 ([jR p0, jI p1, jI p2].map jcv) (jaH h) (.inl (some (jcv (jI o.1)), jaH o.2)) := by
  refine ey_run0 _ mt_398 (jsl_s rfl) ?_
  unfold jd_398 at e
  refine ey_aload_n (cd_398 rfl) rfl ?_
  refine ey_iload_n (cd_398 rfl) rfl ?_
  refine ey_iload_n (cd_398 rfl) rfl ?_
  obtain ⟨a1, e2, e⟩ := jbind e
  refine ey_rs (s0 := [jI p2, jI p1, jR p0]) (s1 := [jI p2, jI p1, jR (some a1)]) (by rw [e2]) ?_
  obtain ⟨u3, e4, e⟩ := jbind e
  rcases jtc_c e with ⟨v6, h8, e5, e⟩ | ⟨E7, h8, e5, e⟩
  rotate_left
  · by_cases q10 : E7 = 1
    · rw [if_pos q10] at e
      subst q10
      refine ey_cvH (s0 := [jI p2, jI p1, jR (some a1)]) (s1 := []) (cd_398 rfl) mt_398 rfl (cd_398 rfl) rfl rfl mt_177 rfl rfl rfl (jck_s e4) rfl (jsml_s rfl) (ok_177 e5) ?_
      refine ey_iconst (cd_398 rfl) ?_
      cases e
      exact ey_reti (cd_398 rfl) mt_398 rfl
    · rw [if_neg q10] at e
      by_cases q9 : E7 = 2
      · rw [if_pos q9] at e
        subst q9
        refine ey_cvH (s0 := [jI p2, jI p1, jR (some a1)]) (s1 := []) (cd_398 rfl) mt_398 rfl (cd_398 rfl) rfl rfl mt_177 rfl rfl rfl (jck_s e4) rfl (jsml_s rfl) (ok_177 e5) ?_
        refine ey_iconst (cd_398 rfl) ?_
        cases e
        exact ey_reti (cd_398 rfl) mt_398 rfl
      · rw [if_neg q9] at e
        cases e
  refine ey_cv (s0 := [jI p2, jI p1, jR (some a1)]) (s1 := []) (st' := []) (cd_398 rfl) mt_398 mt_177 rfl rfl rfl (jck_s e4) rfl (jsml_s rfl) rfl (ok_177 e5) ?_
  refine ey_goto (cd_398 rfl) rfl ?_
  refine ey_iconst (cd_398 rfl) ?_
  cases e
  exact ey_reti (cd_398 rfl) mt_398 rfl
theorem cd_399 {pc : Nat} {i : Instr × Nat} (h : mm_lk mm_c399 pc = some i) : mm_cd 399 pc = some i := h
theorem mt_399 : mm_MT 399 = (13, 4, some .int, 3, 1, [(0, 6, 9, 21), (0, 6, 12, 15)]) := rfl
def jd_399 (p0 : Option Nat) (p1 : Int) (p2 : Int) (h : jH) : Option (Int × jH) :=
  ((p0).bind fun a1 => ((jck h a1 11).bind fun u3 => jtc (jd_178 a1 p1 p2 h) (fun v6 h8 => some (0, h8)) (fun E7 h8 => if E7 = 1 then some (2, h8) else if E7 = 2 then some (1, h8) else none)))
set_option maxRecDepth 100000 in
theorem ok_399 {L : Nat} {xs : Nat → Int32} {p0 : Option Nat} {p1 : Int} {p2 : Int} {h : jH} {o : (Int × jH)} (e : jd_399 p0 p1 p2 h = some o) : mm_Runs (mm_xt L xs) 4 399 ([jR p0, jI p1, jI p2].map jcv) (jaH h) (.inl (some (jcv (jI o.1)), jaH o.2)) := by
  refine ey_run0 _ mt_399 (jsl_s rfl) ?_
  unfold jd_399 at e
  refine ey_aload_n (cd_399 rfl) rfl ?_
  refine ey_iload_n (cd_399 rfl) rfl ?_
  refine ey_iload_n (cd_399 rfl) rfl ?_
  obtain ⟨a1, e2, e⟩ := jbind e
  refine ey_rs (s0 := [jI p2, jI p1, jR p0]) (s1 := [jI p2, jI p1, jR (some a1)]) (by rw [e2]) ?_
  obtain ⟨u3, e4, e⟩ := jbind e
  rcases jtc_c e with ⟨v6, h8, e5, e⟩ | ⟨E7, h8, e5, e⟩
  rotate_left
  · by_cases q10 : E7 = 1
    · rw [if_pos q10] at e
      subst q10
      refine ey_cvH (s0 := [jI p2, jI p1, jR (some a1)]) (s1 := []) (cd_399 rfl) mt_399 rfl (cd_399 rfl) rfl rfl mt_178 rfl rfl rfl (jck_s e4) rfl (jsml_s rfl) (ok_178 e5) ?_
      refine ey_iconst (cd_399 rfl) ?_
      cases e
      exact ey_reti (cd_399 rfl) mt_399 rfl
    · rw [if_neg q10] at e
      by_cases q9 : E7 = 2
      · rw [if_pos q9] at e
        subst q9
        refine ey_cvH (s0 := [jI p2, jI p1, jR (some a1)]) (s1 := []) (cd_399 rfl) mt_399 rfl (cd_399 rfl) rfl rfl mt_178 rfl rfl rfl (jck_s e4) rfl (jsml_s rfl) (ok_178 e5) ?_
        refine ey_iconst (cd_399 rfl) ?_
        cases e
        exact ey_reti (cd_399 rfl) mt_399 rfl
      · rw [if_neg q9] at e
        cases e
  refine ey_cv (s0 := [jI p2, jI p1, jR (some a1)]) (s1 := []) (st' := []) (cd_399 rfl) mt_399 mt_178 rfl rfl rfl (jck_s e4) rfl (jsml_s rfl) rfl (ok_178 e5) ?_
  refine ey_goto (cd_399 rfl) rfl ?_
  refine ey_iconst (cd_399 rfl) ?_
  cases e
  exact ey_reti (cd_399 rfl) mt_399 rfl
theorem cd_400 {pc : Nat} {i : Instr × Nat} (h : mm_lk mm_c400 pc = some i) : mm_cd 400 pc = some i := h
theorem mt_400 : mm_MT 400 = (13, 5, some .int, 4, 1, [(0, 10, 13, 21), (0, 10, 17, 13), (0, 10, 21, 15)]) := rfl
def jd_400 (p0 : Option Nat) (p1 : Int) (p2 : Int) (p3 : Option Nat) (h : jH) : Option (Int × jH) :=
  ((p0).bind fun a1 => ((jck h a1 11).bind fun u3 => jtc (jd_179 a1 p1 p2 h) (fun v6 h8 => ((p3).bind fun a9 => ((jta h8 a9 3 0 (jw v6)).bind fun h11 => some (0, h11)))) (fun E7 h8 => if E7 = 0 then some (2, h8) else if E7 = 1 then some (3, h8) else if E7 = 2 then some (1, h8) else none)))
set_option maxRecDepth 100000 in
theorem ok_400 {L : Nat} {xs : Nat → Int32} {p0 : Option Nat} {p1 : Int} {p2 : Int} {p3 : Option Nat} {h : jH} {o : (Int × jH)} (e : jd_400 p0 p1 p2 p3 h = some o) : mm_Runs (mm_xt L xs) 3 400 ([jR p0, jI p1, jI p2, jR p3].map jcv) (jaH h) (.inl (some (jcv (jI o.1)), jaH o.2)) := by
  refine ey_run0 _ mt_400 (jsl_s rfl) ?_
  unfold jd_400 at e
  refine ey_aload_n (cd_400 rfl) rfl ?_
  refine ey_iconst (cd_400 rfl) ?_
  refine ey_aload_n (cd_400 rfl) rfl ?_
  refine ey_iload_n (cd_400 rfl) rfl ?_
  refine ey_iload_n (cd_400 rfl) rfl ?_
  obtain ⟨a1, e2, e⟩ := jbind e
  refine ey_rs (s0 := [jI p2, jI p1, jR p0, jI 0, jR p3]) (s1 := [jI p2, jI p1, jR (some a1), jI 0, jR p3]) (by rw [e2]) ?_
  obtain ⟨u3, e4, e⟩ := jbind e
  rcases jtc_c e with ⟨v6, h8, e5, e⟩ | ⟨E7, h8, e5, e⟩
  rotate_left
  · by_cases q15 : E7 = 0
    · rw [if_pos q15] at e
      subst q15
      refine ey_cvH (s0 := [jI p2, jI p1, jR (some a1), jI 0, jR p3]) (s1 := [jI 0, jR p3]) (cd_400 rfl) mt_400 rfl (cd_400 rfl) rfl rfl mt_179 rfl rfl rfl (jck_s e4) rfl (jsml_s rfl) (ok_179 e5) ?_
      refine ey_iconst (cd_400 rfl) ?_
      cases e
      exact ey_reti (cd_400 rfl) mt_400 rfl
    · rw [if_neg q15] at e
      by_cases q14 : E7 = 1
      · rw [if_pos q14] at e
        subst q14
        refine ey_cvH (s0 := [jI p2, jI p1, jR (some a1), jI 0, jR p3]) (s1 := [jI 0, jR p3]) (cd_400 rfl) mt_400 rfl (cd_400 rfl) rfl rfl mt_179 rfl rfl rfl (jck_s e4) rfl (jsml_s rfl) (ok_179 e5) ?_
        refine ey_iconst (cd_400 rfl) ?_
        cases e
        exact ey_reti (cd_400 rfl) mt_400 rfl
      · rw [if_neg q14] at e
        by_cases q13 : E7 = 2
        · rw [if_pos q13] at e
          subst q13
          refine ey_cvH (s0 := [jI p2, jI p1, jR (some a1), jI 0, jR p3]) (s1 := [jI 0, jR p3]) (cd_400 rfl) mt_400 rfl (cd_400 rfl) rfl rfl mt_179 rfl rfl rfl (jck_s e4) rfl (jsml_s rfl) (ok_179 e5) ?_
          refine ey_iconst (cd_400 rfl) ?_
          cases e
          exact ey_reti (cd_400 rfl) mt_400 rfl
        · rw [if_neg q13] at e
          cases e
  refine ey_cv (s0 := [jI p2, jI p1, jR (some a1), jI 0, jR p3]) (s1 := [jI 0, jR p3]) (st' := [jI v6, jI 0, jR p3]) (cd_400 rfl) mt_400 mt_179 rfl rfl rfl (jck_s e4) rfl (jsml_s rfl) rfl (ok_179 e5) ?_
  refine ey_i2l (cd_400 rfl) ?_
  obtain ⟨a9, e10, e⟩ := jbind e
  refine ey_rs (s0 := [jJ (jw v6), jI 0, jR p3]) (s1 := [jJ (jw v6), jI 0, jR (some a9)]) (by rw [e10]) ?_
  obtain ⟨h11, e12, e⟩ := jbind e
  refine ey_last (cd_400 rfl) e12 ?_
  refine ey_goto (cd_400 rfl) rfl ?_
  refine ey_iconst (cd_400 rfl) ?_
  cases e
  exact ey_reti (cd_400 rfl) mt_400 rfl
theorem cd_401 {pc : Nat} {i : Instr × Nat} (h : mm_lk mm_c401 pc = some i) : mm_cd 401 pc = some i := h
theorem mt_401 : mm_MT 401 = (13, 7, some .int, 6, 1, [(0, 14, 17, 21), (0, 14, 21, 15)]) := rfl
def jd_401 (p0 : Option Nat) (p1 : Int) (p2 : Int) (p3 : Int) (p4 : Int) (p5 : Option Nat) (h : jH) : Option (Int × jH) :=
  ((p0).bind fun a1 => ((jck h a1 11).bind fun u3 => jtc (jd_180 a1 p1 p2 p3 p4 h) (fun v6 h8 => ((p5).bind fun a9 => ((jta h8 a9 3 0 (jw v6)).bind fun h11 => some (0, h11)))) (fun E7 h8 => if E7 = 1 then some (2, h8) else if E7 = 2 then some (1, h8) else none)))
set_option maxRecDepth 100000 in
theorem ok_401 {L : Nat} {xs : Nat → Int32} {p0 : Option Nat} {p1 : Int} {p2 : Int} {p3 : Int} {p4 : Int} {p5 : Option Nat} {h : jH} {o : (Int × jH)} (e : jd_401 p0 p1 p2 p3 p4 p5 h = some o) : mm_Runs (mm_xt L xs) 4 401 ([jR p0, jI p1, jI p2, jI p3, jI p4, jR p5].map jcv) (jaH h) (.inl (some (jcv (jI o.1)), jaH o.2)) := by
  refine ey_run0 _ mt_401 (jsl_s rfl) ?_
  unfold jd_401 at e
  refine ey_aload (cd_401 rfl) rfl ?_
  refine ey_iconst (cd_401 rfl) ?_
  refine ey_aload_n (cd_401 rfl) rfl ?_
  refine ey_iload_n (cd_401 rfl) rfl ?_
  refine ey_iload_n (cd_401 rfl) rfl ?_
  refine ey_iload_n (cd_401 rfl) rfl ?_
  refine ey_iload (cd_401 rfl) rfl ?_
  obtain ⟨a1, e2, e⟩ := jbind e
  refine ey_rs (s0 := [jI p4, jI p3, jI p2, jI p1, jR p0, jI 0, jR p5]) (s1 := [jI p4, jI p3, jI p2, jI p1, jR (some a1), jI 0, jR p5]) (by rw [e2]) ?_
  obtain ⟨u3, e4, e⟩ := jbind e
  rcases jtc_c e with ⟨v6, h8, e5, e⟩ | ⟨E7, h8, e5, e⟩
  rotate_left
  · by_cases q14 : E7 = 1
    · rw [if_pos q14] at e
      subst q14
      refine ey_cvH (s0 := [jI p4, jI p3, jI p2, jI p1, jR (some a1), jI 0, jR p5]) (s1 := [jI 0, jR p5]) (cd_401 rfl) mt_401 rfl (cd_401 rfl) rfl rfl mt_180 rfl rfl rfl (jck_s e4) rfl (jsml_s rfl) (ok_180 e5) ?_
      refine ey_iconst (cd_401 rfl) ?_
      cases e
      exact ey_reti (cd_401 rfl) mt_401 rfl
    · rw [if_neg q14] at e
      by_cases q13 : E7 = 2
      · rw [if_pos q13] at e
        subst q13
        refine ey_cvH (s0 := [jI p4, jI p3, jI p2, jI p1, jR (some a1), jI 0, jR p5]) (s1 := [jI 0, jR p5]) (cd_401 rfl) mt_401 rfl (cd_401 rfl) rfl rfl mt_180 rfl rfl rfl (jck_s e4) rfl (jsml_s rfl) (ok_180 e5) ?_
        refine ey_iconst (cd_401 rfl) ?_
        cases e
        exact ey_reti (cd_401 rfl) mt_401 rfl
      · rw [if_neg q13] at e
        cases e
  refine ey_cv (s0 := [jI p4, jI p3, jI p2, jI p1, jR (some a1), jI 0, jR p5]) (s1 := [jI 0, jR p5]) (st' := [jI v6, jI 0, jR p5]) (cd_401 rfl) mt_401 mt_180 rfl rfl rfl (jck_s e4) rfl (jsml_s rfl) rfl (ok_180 e5) ?_
  refine ey_i2l (cd_401 rfl) ?_
  obtain ⟨a9, e10, e⟩ := jbind e
  refine ey_rs (s0 := [jJ (jw v6), jI 0, jR p5]) (s1 := [jJ (jw v6), jI 0, jR (some a9)]) (by rw [e10]) ?_
  obtain ⟨h11, e12, e⟩ := jbind e
  refine ey_last (cd_401 rfl) e12 ?_
  refine ey_goto (cd_401 rfl) rfl ?_
  refine ey_iconst (cd_401 rfl) ?_
  cases e
  exact ey_reti (cd_401 rfl) mt_401 rfl
theorem cd_402 {pc : Nat} {i : Instr × Nat} (h : mm_lk mm_c402 pc = some i) : mm_cd 402 pc = some i := h
theorem mt_402 : mm_MT 402 = (13, 4, some .int, 3, 1, [(0, 9, 12, 13)]) := rfl
def jd_402 (p0 : Option Nat) (p1 : Int) (p2 : Option Nat) (h : jH) : Option (Int × jH) :=
  ((p0).bind fun a1 => ((jck h a1 11).bind fun u3 => jtc (jd_181 a1 p1 h) (fun v6 h8 => ((p2).bind fun a9 => ((jta h8 a9 3 0 (jw v6)).bind fun h11 => some (0, h11)))) (fun E7 h8 => if E7 = 0 then some (1, h8) else none)))
set_option maxRecDepth 100000 in
theorem ok_402 {L : Nat} {xs : Nat → Int32} {p0 : Option Nat} {p1 : Int} {p2 : Option Nat} {h : jH} {o : (Int × jH)} (e : jd_402 p0 p1 p2 h = some o) : mm_Runs (mm_xt L xs) 3 402 ([jR p0, jI p1, jR p2].map jcv) (jaH h) (.inl (some (jcv (jI o.1)), jaH o.2)) := by
  refine ey_run0 _ mt_402 (jsl_s rfl) ?_
  unfold jd_402 at e
  refine ey_aload_n (cd_402 rfl) rfl ?_
  refine ey_iconst (cd_402 rfl) ?_
  refine ey_aload_n (cd_402 rfl) rfl ?_
  refine ey_iload_n (cd_402 rfl) rfl ?_
  obtain ⟨a1, e2, e⟩ := jbind e
  refine ey_rs (s0 := [jI p1, jR p0, jI 0, jR p2]) (s1 := [jI p1, jR (some a1), jI 0, jR p2]) (by rw [e2]) ?_
  obtain ⟨u3, e4, e⟩ := jbind e
  rcases jtc_c e with ⟨v6, h8, e5, e⟩ | ⟨E7, h8, e5, e⟩
  rotate_left
  · by_cases q13 : E7 = 0
    · rw [if_pos q13] at e
      subst q13
      refine ey_cvH (s0 := [jI p1, jR (some a1), jI 0, jR p2]) (s1 := [jI 0, jR p2]) (cd_402 rfl) mt_402 rfl (cd_402 rfl) rfl rfl mt_181 rfl rfl rfl (jck_s e4) rfl (jsml_s rfl) (ok_181 e5) ?_
      refine ey_iconst (cd_402 rfl) ?_
      cases e
      exact ey_reti (cd_402 rfl) mt_402 rfl
    · rw [if_neg q13] at e
      cases e
  refine ey_cv (s0 := [jI p1, jR (some a1), jI 0, jR p2]) (s1 := [jI 0, jR p2]) (st' := [jI v6, jI 0, jR p2]) (cd_402 rfl) mt_402 mt_181 rfl rfl rfl (jck_s e4) rfl (jsml_s rfl) rfl (ok_181 e5) ?_
  refine ey_i2l (cd_402 rfl) ?_
  obtain ⟨a9, e10, e⟩ := jbind e
  refine ey_rs (s0 := [jJ (jw v6), jI 0, jR p2]) (s1 := [jJ (jw v6), jI 0, jR (some a9)]) (by rw [e10]) ?_
  obtain ⟨h11, e12, e⟩ := jbind e
  refine ey_last (cd_402 rfl) e12 ?_
  refine ey_goto (cd_402 rfl) rfl ?_
  refine ey_iconst (cd_402 rfl) ?_
  cases e
  exact ey_reti (cd_402 rfl) mt_402 rfl
theorem cd_403 {pc : Nat} {i : Instr × Nat} (h : mm_lk mm_c403 pc = some i) : mm_cd 403 pc = some i := h
theorem mt_403 : mm_MT 403 = (13, 7, some .boolean, 1, 1, []) := rfl
def jd_403_b3169 (L : Nat) (xs : Nat → Int32) (x1 : Option Nat) (x2 : Option Nat) (x3 : Option Nat) (x4 : Int) (h : jH) : Option ((Int × jH) ⊕ jH) :=
  some (.inl ((x4 + 8), h))
set_option maxRecDepth 100000 in
theorem jk_403_b3169 {L : Nat} {xs : Nat → Int32} {x1 : Option Nat} {x2 : Option Nat} {x3 : Option Nat} {x4 : Int} {h : jH} {o : ((Int × jH) ⊕ jH)} {r : mm_R} (e : jd_403_b3169 L xs x1 x2 x3 x4 h = some o) (K : jsm (fun s => (∀ lv : jL, lv 0 = some (jR (some 1000000)) → lv 1 = some (jR x1) → lv 2 = some (jR x2) → lv 3 = some (jR x3) → lv 4 = some (jI s.1) → ey (mm_xt L xs) 72 403 23 lv [] s.2 r)) (fun x => (∀ lv : jL, ey (mm_xt L xs) 72 403 3175 lv [] x r)) o) : ∀ lv : jL, lv 0 = some (jR (some 1000000)) → lv 1 = some (jR x1) → lv 2 = some (jR x2) → lv 3 = some (jR x3) → lv 4 = some (jI x4) → ey (mm_xt L xs) 72 403 3169 lv [] h r := by
  intro lv f0 f1 f2 f3 f4
  unfold jd_403_b3169 at e
  refine ey_iinc (cd_403 rfl) mt_403 rfl f4 ?_
  refine ey_goto (cd_403 rfl) rfl ?_
  cases e
  exact K (jup lv 4 (jI (x4 + 8))) f0 f1 f2 (jup_pr (lv := lv) (j := 3) (v := jI (x4 + 8)) (z := x3) f3) rfl
def jd_403_b325 (L : Nat) (xs : Nat → Int32) (x1 : Option Nat) (x2 : Option Nat) (x3 : Option Nat) (x4 : Int) (h : jH) : Option ((Int × jH) ⊕ jH) :=
  jd_403_b3169 L xs x1 x2 x3 x4 h
set_option maxRecDepth 100000 in
theorem jk_403_b325 {L : Nat} {xs : Nat → Int32} {x1 : Option Nat} {x2 : Option Nat} {x3 : Option Nat} {x4 : Int} {h : jH} {o : ((Int × jH) ⊕ jH)} {r : mm_R} (e : jd_403_b325 L xs x1 x2 x3 x4 h = some o) (K : jsm (fun s => (∀ lv : jL, lv 0 = some (jR (some 1000000)) → lv 1 = some (jR x1) → lv 2 = some (jR x2) → lv 3 = some (jR x3) → lv 4 = some (jI s.1) → ey (mm_xt L xs) 72 403 23 lv [] s.2 r)) (fun x => (∀ lv : jL, ey (mm_xt L xs) 72 403 3175 lv [] x r)) o) : ∀ lv : jL, lv 0 = some (jR (some 1000000)) → lv 1 = some (jR x1) → lv 2 = some (jR x2) → lv 3 = some (jR x3) → lv 4 = some (jI x4) → ey (mm_xt L xs) 72 403 325 lv [] h r := by
  intro lv f0 f1 f2 f3 f4
  unfold jd_403_b325 at e
  refine ey_goto (cd_403 rfl) rfl ?_
  exact jk_403_b3169 e K lv f0 f1 f2 f3 f4
def jd_403_b224 (L : Nat) (xs : Nat → Int32) (x1 : Option Nat) (x2 : Option Nat) (x3 : Option Nat) (x4 : Int) (h : jH) : Option ((Int × jH) ⊕ jH) :=
  ((jsc L xs (x4 + 1)).bind fun v15 => ((jsc L xs (x4 + 2)).bind fun v17 => ((jsc L xs (x4 + 3)).bind fun v19 => ((jsc L xs (x4 + 4)).bind fun v21 => ((jsc L xs (x4 + 5)).bind fun v23 => ((jd_365 x1 v15 v17 v19 v21 v23 x3 h).bind fun q25 => ((jsc L xs (x4 + 1)).bind fun v27 => ((jsc L xs (x4 + 2)).bind fun v29 => ((jsc L xs (x4 + 3)).bind fun v31 => ((jsc L xs (x4 + 4)).bind fun v33 => ((jsc L xs (x4 + 5)).bind fun v35 => ((x2).bind fun a37 => ((jlk q25.2 a37).bind fun u39 => ((jd_214 v27 v29 v31 v33 v35 (jmf q25.2)).bind fun q42 => ((some (jhm q25.2 q42.2)).bind fun h44 => ((x2).bind fun a46 => ((jlk h44 a46).bind fun u48 => (if (jw (jd_203 (jmf h44))) = (jw q25.1) then (if (jw q25.1) = 0 then ((x3).bind fun a53 => ((jal h44 a53 0).bind fun v55 => (if (jwl v55) = (jw q42.1) then jd_403_b325 L xs x1 x2 x3 x4 h44 else none))) else jd_403_b325 L xs x1 x2 x3 x4 h44) else none))))))))))))))))))
set_option maxRecDepth 100000 in
theorem jk_403_b224 {L : Nat} {xs : Nat → Int32} {x1 : Option Nat} {x2 : Option Nat} {x3 : Option Nat} {x4 : Int} {h : jH} {o : ((Int × jH) ⊕ jH)} {r : mm_R} (e : jd_403_b224 L xs x1 x2 x3 x4 h = some o) (K : jsm (fun s => (∀ lv : jL, lv 0 = some (jR (some 1000000)) → lv 1 = some (jR x1) → lv 2 = some (jR x2) → lv 3 = some (jR x3) → lv 4 = some (jI s.1) → ey (mm_xt L xs) 72 403 23 lv [] s.2 r)) (fun x => (∀ lv : jL, ey (mm_xt L xs) 72 403 3175 lv [] x r)) o) : ∀ lv : jL, lv 0 = some (jR (some 1000000)) → lv 1 = some (jR x1) → lv 2 = some (jR x2) → lv 3 = some (jR x3) → lv 4 = some (jI x4) → ey (mm_xt L xs) 72 403 224 lv [] h r := by
  intro lv f0 f1 f2 f3 f4
  unfold jd_403_b224 at e
  refine ey_aload_n (cd_403 rfl) f1 ?_
  refine ey_aload_n (cd_403 rfl) f0 ?_
  refine ey_iload (cd_403 rfl) f4 ?_
  refine ey_iconst (cd_403 rfl) ?_
  refine ey_iadd (cd_403 rfl) ?_
  obtain ⟨v15, e16, e⟩ := jbind e
  refine ey_iasc (cd_403 rfl) e16 ?_
  refine ey_aload_n (cd_403 rfl) f0 ?_
  refine ey_iload (cd_403 rfl) f4 ?_
  refine ey_iconst (cd_403 rfl) ?_
  refine ey_iadd (cd_403 rfl) ?_
  obtain ⟨v17, e18, e⟩ := jbind e
  refine ey_iasc (cd_403 rfl) e18 ?_
  refine ey_aload_n (cd_403 rfl) f0 ?_
  refine ey_iload (cd_403 rfl) f4 ?_
  refine ey_iconst (cd_403 rfl) ?_
  refine ey_iadd (cd_403 rfl) ?_
  obtain ⟨v19, e20, e⟩ := jbind e
  refine ey_iasc (cd_403 rfl) e20 ?_
  refine ey_aload_n (cd_403 rfl) f0 ?_
  refine ey_iload (cd_403 rfl) f4 ?_
  refine ey_iconst (cd_403 rfl) ?_
  refine ey_iadd (cd_403 rfl) ?_
  obtain ⟨v21, e22, e⟩ := jbind e
  refine ey_iasc (cd_403 rfl) e22 ?_
  refine ey_aload_n (cd_403 rfl) f0 ?_
  refine ey_iload (cd_403 rfl) f4 ?_
  refine ey_iconst (cd_403 rfl) ?_
  refine ey_iadd (cd_403 rfl) ?_
  obtain ⟨v23, e24, e⟩ := jbind e
  refine ey_iasc (cd_403 rfl) e24 ?_
  refine ey_aload_n (cd_403 rfl) f3 ?_
  obtain ⟨q25, e26, e⟩ := jbind e
  refine ey_cs (s0 := [jR x3, jI v23, jI v21, jI v19, jI v17, jI v15, jR x1]) (s1 := []) (st' := [jI q25.1]) (cd_403 rfl) mt_403 mt_365 rfl (by decide) rfl rfl (jsml_s rfl) rfl (mm_Runs.up (d := 4) (by decide) (ok_365 e26)) ?_
  refine ey_istore (cd_403 rfl) mt_403 rfl ?_
  refine ey_aload_n (cd_403 rfl) f2 ?_
  refine ey_aload_n (cd_403 rfl) f0 ?_
  refine ey_iload (cd_403 rfl) (jup_pi (lv := lv) (j := 4) (v := jI q25.1) (z := x4) f4) ?_
  refine ey_iconst (cd_403 rfl) ?_
  refine ey_iadd (cd_403 rfl) ?_
  obtain ⟨v27, e28, e⟩ := jbind e
  refine ey_iasc (cd_403 rfl) e28 ?_
  refine ey_aload_n (cd_403 rfl) f0 ?_
  refine ey_iload (cd_403 rfl) (jup_pi (lv := lv) (j := 4) (v := jI q25.1) (z := x4) f4) ?_
  refine ey_iconst (cd_403 rfl) ?_
  refine ey_iadd (cd_403 rfl) ?_
  obtain ⟨v29, e30, e⟩ := jbind e
  refine ey_iasc (cd_403 rfl) e30 ?_
  refine ey_aload_n (cd_403 rfl) f0 ?_
  refine ey_iload (cd_403 rfl) (jup_pi (lv := lv) (j := 4) (v := jI q25.1) (z := x4) f4) ?_
  refine ey_iconst (cd_403 rfl) ?_
  refine ey_iadd (cd_403 rfl) ?_
  obtain ⟨v31, e32, e⟩ := jbind e
  refine ey_iasc (cd_403 rfl) e32 ?_
  refine ey_aload_n (cd_403 rfl) f0 ?_
  refine ey_iload (cd_403 rfl) (jup_pi (lv := lv) (j := 4) (v := jI q25.1) (z := x4) f4) ?_
  refine ey_iconst (cd_403 rfl) ?_
  refine ey_iadd (cd_403 rfl) ?_
  obtain ⟨v33, e34, e⟩ := jbind e
  refine ey_iasc (cd_403 rfl) e34 ?_
  refine ey_aload_n (cd_403 rfl) f0 ?_
  refine ey_iload (cd_403 rfl) (jup_pi (lv := lv) (j := 4) (v := jI q25.1) (z := x4) f4) ?_
  refine ey_iconst (cd_403 rfl) ?_
  refine ey_iadd (cd_403 rfl) ?_
  obtain ⟨v35, e36, e⟩ := jbind e
  refine ey_iasc (cd_403 rfl) e36 ?_
  obtain ⟨a37, e38, e⟩ := jbind e
  refine ey_rs (s0 := [jI v35, jI v33, jI v31, jI v29, jI v27, jR x2]) (s1 := [jI v35, jI v33, jI v31, jI v29, jI v27, jR (some a37)]) (by rw [e38]) ?_
  obtain ⟨u39, e40, e⟩ := jbind e
  have w41 := jlk_s e40
  refine ey_rs (s0 := [jI v35, jI v33, jI v31, jI v29, jI v27, jR (some a37)]) (s1 := [jI v35, jI v33, jI v31, jI v29, jI v27, jR (some 76)]) (by rw [w41.1]) ?_
  obtain ⟨q42, e43, e⟩ := jbind e
  refine ey_cv (s0 := [jI v35, jI v33, jI v31, jI v29, jI v27, jR (some 76)]) (s1 := []) (st' := [jI q42.1]) (cd_403 rfl) mt_403 mt_214 rfl rfl rfl (by have w := jhm_is (m := jmf q25.2) w41.2.1; rw [w41.2.2.2] at w; exact w) rfl (jsml_s rfl) rfl (mm_Runs.up (d := 3) (by decide) (by have w := ok_214 (L := L) (xs := xs) (b := q25.2) (m := jmf q25.2) w41.2.1 w41.2.2.1 e43; rw [w41.2.2.2] at w; exact w)) ?_
  obtain ⟨h44, e45, e⟩ := jbind e
  obtain rfl : (jhm q25.2 q42.2) = h44 := Option.some.inj e45
  refine ey_istore (cd_403 rfl) mt_403 rfl ?_
  refine ey_aload_n (cd_403 rfl) f2 ?_
  obtain ⟨a46, e47, e⟩ := jbind e
  refine ey_rs (s0 := [jR x2]) (s1 := [jR (some a46)]) (by rw [e47]) ?_
  obtain ⟨u48, e49, e⟩ := jbind e
  have w50 := jlk_s e49
  refine ey_rs (s0 := [jR (some a46)]) (s1 := [jR (some 76)]) (by rw [w50.1]) ?_
  refine ey_cv (s0 := [jR (some 76)]) (s1 := []) (st' := [jI (jd_203 (jmf h44))]) (cd_403 rfl) mt_403 mt_203 rfl rfl rfl (by have w := jhm_is (m := jmf h44) w50.2.1; rw [w50.2.2.2] at w; exact w) rfl (jsml_s rfl) rfl (mm_Runs.up (d := 1) (by decide) (by have w := ok_203 (L := L) (xs := xs) (b := h44) (m := jmf h44) w50.2.1 w50.2.2.1 ; rw [w50.2.2.2] at w; exact w)) ?_
  refine ey_iload (cd_403 rfl) (jup_pi (lv := (jup lv 5 (jI q25.1))) (j := 5) (v := jI q42.1) (z := q25.1) rfl) ?_
  by_cases q51 : (jw (jd_203 (jmf h44))) = (jw q25.1)
  · rw [if_pos q51] at e
    refine ey_ceq (cd_403 rfl) rfl rfl rfl q51 ?_
    refine ey_iload (cd_403 rfl) (jup_pi (lv := (jup lv 5 (jI q25.1))) (j := 5) (v := jI q42.1) (z := q25.1) rfl) ?_
    by_cases q52 : (jw q25.1) = 0
    · rw [if_pos q52] at e
      refine ey_yne (cd_403 rfl) rfl rfl (fun w => w q52) ?_
      refine ey_aload_n (cd_403 rfl) f3 ?_
      refine ey_iconst (cd_403 rfl) ?_
      obtain ⟨a53, e54, e⟩ := jbind e
      refine ey_rs (s0 := [jI 0, jR x3]) (s1 := [jI 0, jR (some a53)]) (by rw [e54]) ?_
      obtain ⟨v55, e56, e⟩ := jbind e
      refine ey_lald (cd_403 rfl) e56 ?_
      refine ey_iload (cd_403 rfl) rfl ?_
      refine ey_i2l (cd_403 rfl) ?_
      refine ey_lcmp (cd_403 rfl) ?_
      by_cases q57 : (jwl v55) = (jw q42.1)
      · rw [if_pos q57] at e
        refine ey_zeq (cd_403 rfl) rfl rfl ((jlc_eq rfl (jwl_jw _)).mpr q57) ?_
        exact jk_403_b325 e K (jup (jup lv 5 (jI q25.1)) 6 (jI q42.1)) f0 f1 f2 f3 (jup_o rfl (jup_pi (lv := lv) (j := 4) (v := jI q25.1) (z := x4) f4))
      · rw [if_neg q57] at e
        refine ey_yeq (cd_403 rfl) rfl rfl (fun w => q57 ((jlc_eq rfl (jwl_jw _)).mp w)) ?_
        cases e
    · rw [if_neg q52] at e
      refine ey_zne (cd_403 rfl) rfl rfl q52 ?_
      exact jk_403_b325 e K (jup (jup lv 5 (jI q25.1)) 6 (jI q42.1)) f0 f1 f2 f3 (jup_o rfl (jup_pi (lv := lv) (j := 4) (v := jI q25.1) (z := x4) f4))
  · rw [if_neg q51] at e
    refine ey_neq (cd_403 rfl) rfl rfl rfl q51 ?_
    cases e
def jd_403_b457 (L : Nat) (xs : Nat → Int32) (x1 : Option Nat) (x2 : Option Nat) (x3 : Option Nat) (x4 : Int) (h : jH) : Option ((Int × jH) ⊕ jH) :=
  jd_403_b3169 L xs x1 x2 x3 x4 h
set_option maxRecDepth 100000 in
theorem jk_403_b457 {L : Nat} {xs : Nat → Int32} {x1 : Option Nat} {x2 : Option Nat} {x3 : Option Nat} {x4 : Int} {h : jH} {o : ((Int × jH) ⊕ jH)} {r : mm_R} (e : jd_403_b457 L xs x1 x2 x3 x4 h = some o) (K : jsm (fun s => (∀ lv : jL, lv 0 = some (jR (some 1000000)) → lv 1 = some (jR x1) → lv 2 = some (jR x2) → lv 3 = some (jR x3) → lv 4 = some (jI s.1) → ey (mm_xt L xs) 72 403 23 lv [] s.2 r)) (fun x => (∀ lv : jL, ey (mm_xt L xs) 72 403 3175 lv [] x r)) o) : ∀ lv : jL, lv 0 = some (jR (some 1000000)) → lv 1 = some (jR x1) → lv 2 = some (jR x2) → lv 3 = some (jR x3) → lv 4 = some (jI x4) → ey (mm_xt L xs) 72 403 457 lv [] h r := by
  intro lv f0 f1 f2 f3 f4
  unfold jd_403_b457 at e
  refine ey_goto (cd_403 rfl) rfl ?_
  exact jk_403_b3169 e K lv f0 f1 f2 f3 f4
def jd_403_b328 (L : Nat) (xs : Nat → Int32) (x1 : Option Nat) (x2 : Option Nat) (x3 : Option Nat) (x4 : Int) (h : jH) : Option ((Int × jH) ⊕ jH) :=
  ((jsc L xs (x4 + 1)).bind fun v59 => ((jsc L xs (x4 + 2)).bind fun v61 => ((jsc L xs (x4 + 3)).bind fun v63 => ((jsc L xs (x4 + 4)).bind fun v65 => ((jsc L xs (x4 + 5)).bind fun v67 => ((jsc L xs (x4 + 6)).bind fun v69 => ((jsc L xs (x4 + 7)).bind fun v71 => ((jd_366 x1 v59 v61 v63 v65 v67 v69 v71 x3 h).bind fun q73 => ((jsc L xs (x4 + 1)).bind fun v75 => ((jsc L xs (x4 + 2)).bind fun v77 => ((jsc L xs (x4 + 3)).bind fun v79 => ((jsc L xs (x4 + 4)).bind fun v81 => ((jsc L xs (x4 + 5)).bind fun v83 => ((jsc L xs (x4 + 6)).bind fun v85 => ((jsc L xs (x4 + 7)).bind fun v87 => ((x2).bind fun a89 => ((jlk q73.2 a89).bind fun u91 => ((jd_215 v75 v77 v79 v81 v83 v85 v87 (jmf q73.2)).bind fun q94 => ((some (jhm q73.2 q94.2)).bind fun h96 => ((x2).bind fun a98 => ((jlk h96 a98).bind fun u100 => (if (jw (jd_203 (jmf h96))) = (jw q73.1) then (if (jw q73.1) = 0 then ((x3).bind fun a105 => ((jal h96 a105 0).bind fun v107 => (if (jwl v107) = (jw q94.1) then jd_403_b457 L xs x1 x2 x3 x4 h96 else none))) else jd_403_b457 L xs x1 x2 x3 x4 h96) else none))))))))))))))))))))))
set_option maxRecDepth 100000 in
theorem jk_403_b328 {L : Nat} {xs : Nat → Int32} {x1 : Option Nat} {x2 : Option Nat} {x3 : Option Nat} {x4 : Int} {h : jH} {o : ((Int × jH) ⊕ jH)} {r : mm_R} (e : jd_403_b328 L xs x1 x2 x3 x4 h = some o) (K : jsm (fun s => (∀ lv : jL, lv 0 = some (jR (some 1000000)) → lv 1 = some (jR x1) → lv 2 = some (jR x2) → lv 3 = some (jR x3) → lv 4 = some (jI s.1) → ey (mm_xt L xs) 72 403 23 lv [] s.2 r)) (fun x => (∀ lv : jL, ey (mm_xt L xs) 72 403 3175 lv [] x r)) o) : ∀ lv : jL, lv 0 = some (jR (some 1000000)) → lv 1 = some (jR x1) → lv 2 = some (jR x2) → lv 3 = some (jR x3) → lv 4 = some (jI x4) → ey (mm_xt L xs) 72 403 328 lv [] h r := by
  intro lv f0 f1 f2 f3 f4
  unfold jd_403_b328 at e
  refine ey_aload_n (cd_403 rfl) f1 ?_
  refine ey_aload_n (cd_403 rfl) f0 ?_
  refine ey_iload (cd_403 rfl) f4 ?_
  refine ey_iconst (cd_403 rfl) ?_
  refine ey_iadd (cd_403 rfl) ?_
  obtain ⟨v59, e60, e⟩ := jbind e
  refine ey_iasc (cd_403 rfl) e60 ?_
  refine ey_aload_n (cd_403 rfl) f0 ?_
  refine ey_iload (cd_403 rfl) f4 ?_
  refine ey_iconst (cd_403 rfl) ?_
  refine ey_iadd (cd_403 rfl) ?_
  obtain ⟨v61, e62, e⟩ := jbind e
  refine ey_iasc (cd_403 rfl) e62 ?_
  refine ey_aload_n (cd_403 rfl) f0 ?_
  refine ey_iload (cd_403 rfl) f4 ?_
  refine ey_iconst (cd_403 rfl) ?_
  refine ey_iadd (cd_403 rfl) ?_
  obtain ⟨v63, e64, e⟩ := jbind e
  refine ey_iasc (cd_403 rfl) e64 ?_
  refine ey_aload_n (cd_403 rfl) f0 ?_
  refine ey_iload (cd_403 rfl) f4 ?_
  refine ey_iconst (cd_403 rfl) ?_
  refine ey_iadd (cd_403 rfl) ?_
  obtain ⟨v65, e66, e⟩ := jbind e
  refine ey_iasc (cd_403 rfl) e66 ?_
  refine ey_aload_n (cd_403 rfl) f0 ?_
  refine ey_iload (cd_403 rfl) f4 ?_
  refine ey_iconst (cd_403 rfl) ?_
  refine ey_iadd (cd_403 rfl) ?_
  obtain ⟨v67, e68, e⟩ := jbind e
  refine ey_iasc (cd_403 rfl) e68 ?_
  refine ey_aload_n (cd_403 rfl) f0 ?_
  refine ey_iload (cd_403 rfl) f4 ?_
  refine ey_bipush (cd_403 rfl) (by decide) ?_
  refine ey_iadd (cd_403 rfl) ?_
  obtain ⟨v69, e70, e⟩ := jbind e
  refine ey_iasc (cd_403 rfl) e70 ?_
  refine ey_aload_n (cd_403 rfl) f0 ?_
  refine ey_iload (cd_403 rfl) f4 ?_
  refine ey_bipush (cd_403 rfl) (by decide) ?_
  refine ey_iadd (cd_403 rfl) ?_
  obtain ⟨v71, e72, e⟩ := jbind e
  refine ey_iasc (cd_403 rfl) e72 ?_
  refine ey_aload_n (cd_403 rfl) f3 ?_
  obtain ⟨q73, e74, e⟩ := jbind e
  refine ey_cs (s0 := [jR x3, jI v71, jI v69, jI v67, jI v65, jI v63, jI v61, jI v59, jR x1]) (s1 := []) (st' := [jI q73.1]) (cd_403 rfl) mt_403 mt_366 rfl (by decide) rfl rfl (jsml_s rfl) rfl (mm_Runs.up (d := 3) (by decide) (ok_366 e74)) ?_
  refine ey_istore (cd_403 rfl) mt_403 rfl ?_
  refine ey_aload_n (cd_403 rfl) f2 ?_
  refine ey_aload_n (cd_403 rfl) f0 ?_
  refine ey_iload (cd_403 rfl) (jup_pi (lv := lv) (j := 4) (v := jI q73.1) (z := x4) f4) ?_
  refine ey_iconst (cd_403 rfl) ?_
  refine ey_iadd (cd_403 rfl) ?_
  obtain ⟨v75, e76, e⟩ := jbind e
  refine ey_iasc (cd_403 rfl) e76 ?_
  refine ey_aload_n (cd_403 rfl) f0 ?_
  refine ey_iload (cd_403 rfl) (jup_pi (lv := lv) (j := 4) (v := jI q73.1) (z := x4) f4) ?_
  refine ey_iconst (cd_403 rfl) ?_
  refine ey_iadd (cd_403 rfl) ?_
  obtain ⟨v77, e78, e⟩ := jbind e
  refine ey_iasc (cd_403 rfl) e78 ?_
  refine ey_aload_n (cd_403 rfl) f0 ?_
  refine ey_iload (cd_403 rfl) (jup_pi (lv := lv) (j := 4) (v := jI q73.1) (z := x4) f4) ?_
  refine ey_iconst (cd_403 rfl) ?_
  refine ey_iadd (cd_403 rfl) ?_
  obtain ⟨v79, e80, e⟩ := jbind e
  refine ey_iasc (cd_403 rfl) e80 ?_
  refine ey_aload_n (cd_403 rfl) f0 ?_
  refine ey_iload (cd_403 rfl) (jup_pi (lv := lv) (j := 4) (v := jI q73.1) (z := x4) f4) ?_
  refine ey_iconst (cd_403 rfl) ?_
  refine ey_iadd (cd_403 rfl) ?_
  obtain ⟨v81, e82, e⟩ := jbind e
  refine ey_iasc (cd_403 rfl) e82 ?_
  refine ey_aload_n (cd_403 rfl) f0 ?_
  refine ey_iload (cd_403 rfl) (jup_pi (lv := lv) (j := 4) (v := jI q73.1) (z := x4) f4) ?_
  refine ey_iconst (cd_403 rfl) ?_
  refine ey_iadd (cd_403 rfl) ?_
  obtain ⟨v83, e84, e⟩ := jbind e
  refine ey_iasc (cd_403 rfl) e84 ?_
  refine ey_aload_n (cd_403 rfl) f0 ?_
  refine ey_iload (cd_403 rfl) (jup_pi (lv := lv) (j := 4) (v := jI q73.1) (z := x4) f4) ?_
  refine ey_bipush (cd_403 rfl) (by decide) ?_
  refine ey_iadd (cd_403 rfl) ?_
  obtain ⟨v85, e86, e⟩ := jbind e
  refine ey_iasc (cd_403 rfl) e86 ?_
  refine ey_aload_n (cd_403 rfl) f0 ?_
  refine ey_iload (cd_403 rfl) (jup_pi (lv := lv) (j := 4) (v := jI q73.1) (z := x4) f4) ?_
  refine ey_bipush (cd_403 rfl) (by decide) ?_
  refine ey_iadd (cd_403 rfl) ?_
  obtain ⟨v87, e88, e⟩ := jbind e
  refine ey_iasc (cd_403 rfl) e88 ?_
  obtain ⟨a89, e90, e⟩ := jbind e
  refine ey_rs (s0 := [jI v87, jI v85, jI v83, jI v81, jI v79, jI v77, jI v75, jR x2]) (s1 := [jI v87, jI v85, jI v83, jI v81, jI v79, jI v77, jI v75, jR (some a89)]) (by rw [e90]) ?_
  obtain ⟨u91, e92, e⟩ := jbind e
  have w93 := jlk_s e92
  refine ey_rs (s0 := [jI v87, jI v85, jI v83, jI v81, jI v79, jI v77, jI v75, jR (some a89)]) (s1 := [jI v87, jI v85, jI v83, jI v81, jI v79, jI v77, jI v75, jR (some 76)]) (by rw [w93.1]) ?_
  obtain ⟨q94, e95, e⟩ := jbind e
  refine ey_cv (s0 := [jI v87, jI v85, jI v83, jI v81, jI v79, jI v77, jI v75, jR (some 76)]) (s1 := []) (st' := [jI q94.1]) (cd_403 rfl) mt_403 mt_215 rfl rfl rfl (by have w := jhm_is (m := jmf q73.2) w93.2.1; rw [w93.2.2.2] at w; exact w) rfl (jsml_s rfl) rfl (mm_Runs.up (d := 3) (by decide) (by have w := ok_215 (L := L) (xs := xs) (b := q73.2) (m := jmf q73.2) w93.2.1 w93.2.2.1 e95; rw [w93.2.2.2] at w; exact w)) ?_
  obtain ⟨h96, e97, e⟩ := jbind e
  obtain rfl : (jhm q73.2 q94.2) = h96 := Option.some.inj e97
  refine ey_istore (cd_403 rfl) mt_403 rfl ?_
  refine ey_aload_n (cd_403 rfl) f2 ?_
  obtain ⟨a98, e99, e⟩ := jbind e
  refine ey_rs (s0 := [jR x2]) (s1 := [jR (some a98)]) (by rw [e99]) ?_
  obtain ⟨u100, e101, e⟩ := jbind e
  have w102 := jlk_s e101
  refine ey_rs (s0 := [jR (some a98)]) (s1 := [jR (some 76)]) (by rw [w102.1]) ?_
  refine ey_cv (s0 := [jR (some 76)]) (s1 := []) (st' := [jI (jd_203 (jmf h96))]) (cd_403 rfl) mt_403 mt_203 rfl rfl rfl (by have w := jhm_is (m := jmf h96) w102.2.1; rw [w102.2.2.2] at w; exact w) rfl (jsml_s rfl) rfl (mm_Runs.up (d := 1) (by decide) (by have w := ok_203 (L := L) (xs := xs) (b := h96) (m := jmf h96) w102.2.1 w102.2.2.1 ; rw [w102.2.2.2] at w; exact w)) ?_
  refine ey_iload (cd_403 rfl) (jup_pi (lv := (jup lv 5 (jI q73.1))) (j := 5) (v := jI q94.1) (z := q73.1) rfl) ?_
  by_cases q103 : (jw (jd_203 (jmf h96))) = (jw q73.1)
  · rw [if_pos q103] at e
    refine ey_ceq (cd_403 rfl) rfl rfl rfl q103 ?_
    refine ey_iload (cd_403 rfl) (jup_pi (lv := (jup lv 5 (jI q73.1))) (j := 5) (v := jI q94.1) (z := q73.1) rfl) ?_
    by_cases q104 : (jw q73.1) = 0
    · rw [if_pos q104] at e
      refine ey_yne (cd_403 rfl) rfl rfl (fun w => w q104) ?_
      refine ey_aload_n (cd_403 rfl) f3 ?_
      refine ey_iconst (cd_403 rfl) ?_
      obtain ⟨a105, e106, e⟩ := jbind e
      refine ey_rs (s0 := [jI 0, jR x3]) (s1 := [jI 0, jR (some a105)]) (by rw [e106]) ?_
      obtain ⟨v107, e108, e⟩ := jbind e
      refine ey_lald (cd_403 rfl) e108 ?_
      refine ey_iload (cd_403 rfl) rfl ?_
      refine ey_i2l (cd_403 rfl) ?_
      refine ey_lcmp (cd_403 rfl) ?_
      by_cases q109 : (jwl v107) = (jw q94.1)
      · rw [if_pos q109] at e
        refine ey_zeq (cd_403 rfl) rfl rfl ((jlc_eq rfl (jwl_jw _)).mpr q109) ?_
        exact jk_403_b457 e K (jup (jup lv 5 (jI q73.1)) 6 (jI q94.1)) f0 f1 f2 f3 (jup_o rfl (jup_pi (lv := lv) (j := 4) (v := jI q73.1) (z := x4) f4))
      · rw [if_neg q109] at e
        refine ey_yeq (cd_403 rfl) rfl rfl (fun w => q109 ((jlc_eq rfl (jwl_jw _)).mp w)) ?_
        cases e
    · rw [if_neg q104] at e
      refine ey_zne (cd_403 rfl) rfl rfl q104 ?_
      exact jk_403_b457 e K (jup (jup lv 5 (jI q73.1)) 6 (jI q94.1)) f0 f1 f2 f3 (jup_o rfl (jup_pi (lv := lv) (j := 4) (v := jI q73.1) (z := x4) f4))
  · rw [if_neg q103] at e
    refine ey_neq (cd_403 rfl) rfl rfl rfl q103 ?_
    cases e
def jd_403_b460 (L : Nat) (xs : Nat → Int32) (x1 : Option Nat) (x2 : Option Nat) (x3 : Option Nat) (x4 : Int) (h : jH) : Option ((Int × jH) ⊕ jH) :=
  ((jsc L xs (x4 + 1)).bind fun v111 => ((jsc L xs (x4 + 2)).bind fun v113 => ((jsc L xs (x4 + 3)).bind fun v115 => ((jsc L xs (x4 + 4)).bind fun v117 => ((jsc L xs (x4 + 5)).bind fun v119 => ((jd_367 x1 v111 v113 (jlor (jlshl (jw v115) 32) (jland (jw v117) 4294967295)) v119 h).bind fun q121 => ((jsc L xs (x4 + 1)).bind fun v123 => ((jsc L xs (x4 + 2)).bind fun v125 => ((jsc L xs (x4 + 3)).bind fun v127 => ((jsc L xs (x4 + 4)).bind fun v129 => ((jsc L xs (x4 + 5)).bind fun v131 => ((x2).bind fun a133 => ((jlk q121.2 a133).bind fun u135 => ((jd_216 v123 v125 (jlor (jlshl (jw v127) 32) (jland (jw v129) 4294967295)) v131 (jmf q121.2)).bind fun m138 => ((some (jhm q121.2 m138)).bind fun h140 => ((x2).bind fun a142 => ((jlk h140 a142).bind fun u144 => (if (jw (jd_203 (jmf h140))) = (jw q121.1) then jd_403_b3169 L xs x1 x2 x3 x4 h140 else none))))))))))))))))))
set_option maxRecDepth 100000 in
theorem jk_403_b460 {L : Nat} {xs : Nat → Int32} {x1 : Option Nat} {x2 : Option Nat} {x3 : Option Nat} {x4 : Int} {h : jH} {o : ((Int × jH) ⊕ jH)} {r : mm_R} (e : jd_403_b460 L xs x1 x2 x3 x4 h = some o) (K : jsm (fun s => (∀ lv : jL, lv 0 = some (jR (some 1000000)) → lv 1 = some (jR x1) → lv 2 = some (jR x2) → lv 3 = some (jR x3) → lv 4 = some (jI s.1) → ey (mm_xt L xs) 72 403 23 lv [] s.2 r)) (fun x => (∀ lv : jL, ey (mm_xt L xs) 72 403 3175 lv [] x r)) o) : ∀ lv : jL, lv 0 = some (jR (some 1000000)) → lv 1 = some (jR x1) → lv 2 = some (jR x2) → lv 3 = some (jR x3) → lv 4 = some (jI x4) → ey (mm_xt L xs) 72 403 460 lv [] h r := by
  intro lv f0 f1 f2 f3 f4
  unfold jd_403_b460 at e
  refine ey_aload_n (cd_403 rfl) f1 ?_
  refine ey_aload_n (cd_403 rfl) f0 ?_
  refine ey_iload (cd_403 rfl) f4 ?_
  refine ey_iconst (cd_403 rfl) ?_
  refine ey_iadd (cd_403 rfl) ?_
  obtain ⟨v111, e112, e⟩ := jbind e
  refine ey_iasc (cd_403 rfl) e112 ?_
  refine ey_aload_n (cd_403 rfl) f0 ?_
  refine ey_iload (cd_403 rfl) f4 ?_
  refine ey_iconst (cd_403 rfl) ?_
  refine ey_iadd (cd_403 rfl) ?_
  obtain ⟨v113, e114, e⟩ := jbind e
  refine ey_iasc (cd_403 rfl) e114 ?_
  refine ey_aload_n (cd_403 rfl) f0 ?_
  refine ey_iload (cd_403 rfl) f4 ?_
  refine ey_iconst (cd_403 rfl) ?_
  refine ey_iadd (cd_403 rfl) ?_
  obtain ⟨v115, e116, e⟩ := jbind e
  refine ey_iasc (cd_403 rfl) e116 ?_
  refine ey_i2l (cd_403 rfl) ?_
  refine ey_bipush (cd_403 rfl) (by decide) ?_
  refine ey_lshl (cd_403 rfl) ?_
  refine ey_aload_n (cd_403 rfl) f0 ?_
  refine ey_iload (cd_403 rfl) f4 ?_
  refine ey_iconst (cd_403 rfl) ?_
  refine ey_iadd (cd_403 rfl) ?_
  obtain ⟨v117, e118, e⟩ := jbind e
  refine ey_iasc (cd_403 rfl) e118 ?_
  refine ey_i2l (cd_403 rfl) ?_
  refine ey_ldc2 (z := 4294967295) (cd_403 rfl) mt_403 rfl (by decide) ?_
  refine ey_land (cd_403 rfl) ?_
  refine ey_lor (cd_403 rfl) ?_
  refine ey_aload_n (cd_403 rfl) f0 ?_
  refine ey_iload (cd_403 rfl) f4 ?_
  refine ey_iconst (cd_403 rfl) ?_
  refine ey_iadd (cd_403 rfl) ?_
  obtain ⟨v119, e120, e⟩ := jbind e
  refine ey_iasc (cd_403 rfl) e120 ?_
  obtain ⟨q121, e122, e⟩ := jbind e
  refine ey_cs (s0 := [jI v119, jJ (jlor (jlshl (jw v115) 32) (jland (jw v117) 4294967295)), jI v113, jI v111, jR x1]) (s1 := []) (st' := [jI q121.1]) (cd_403 rfl) mt_403 mt_367 rfl (by decide) rfl rfl (jsml_s rfl) rfl (mm_Runs.up (d := 3) (by decide) (ok_367 e122)) ?_
  refine ey_istore (cd_403 rfl) mt_403 rfl ?_
  refine ey_aload_n (cd_403 rfl) f2 ?_
  refine ey_aload_n (cd_403 rfl) f0 ?_
  refine ey_iload (cd_403 rfl) (jup_pi (lv := lv) (j := 4) (v := jI q121.1) (z := x4) f4) ?_
  refine ey_iconst (cd_403 rfl) ?_
  refine ey_iadd (cd_403 rfl) ?_
  obtain ⟨v123, e124, e⟩ := jbind e
  refine ey_iasc (cd_403 rfl) e124 ?_
  refine ey_aload_n (cd_403 rfl) f0 ?_
  refine ey_iload (cd_403 rfl) (jup_pi (lv := lv) (j := 4) (v := jI q121.1) (z := x4) f4) ?_
  refine ey_iconst (cd_403 rfl) ?_
  refine ey_iadd (cd_403 rfl) ?_
  obtain ⟨v125, e126, e⟩ := jbind e
  refine ey_iasc (cd_403 rfl) e126 ?_
  refine ey_aload_n (cd_403 rfl) f0 ?_
  refine ey_iload (cd_403 rfl) (jup_pi (lv := lv) (j := 4) (v := jI q121.1) (z := x4) f4) ?_
  refine ey_iconst (cd_403 rfl) ?_
  refine ey_iadd (cd_403 rfl) ?_
  obtain ⟨v127, e128, e⟩ := jbind e
  refine ey_iasc (cd_403 rfl) e128 ?_
  refine ey_i2l (cd_403 rfl) ?_
  refine ey_bipush (cd_403 rfl) (by decide) ?_
  refine ey_lshl (cd_403 rfl) ?_
  refine ey_aload_n (cd_403 rfl) f0 ?_
  refine ey_iload (cd_403 rfl) (jup_pi (lv := lv) (j := 4) (v := jI q121.1) (z := x4) f4) ?_
  refine ey_iconst (cd_403 rfl) ?_
  refine ey_iadd (cd_403 rfl) ?_
  obtain ⟨v129, e130, e⟩ := jbind e
  refine ey_iasc (cd_403 rfl) e130 ?_
  refine ey_i2l (cd_403 rfl) ?_
  refine ey_ldc2 (z := 4294967295) (cd_403 rfl) mt_403 rfl (by decide) ?_
  refine ey_land (cd_403 rfl) ?_
  refine ey_lor (cd_403 rfl) ?_
  refine ey_aload_n (cd_403 rfl) f0 ?_
  refine ey_iload (cd_403 rfl) (jup_pi (lv := lv) (j := 4) (v := jI q121.1) (z := x4) f4) ?_
  refine ey_iconst (cd_403 rfl) ?_
  refine ey_iadd (cd_403 rfl) ?_
  obtain ⟨v131, e132, e⟩ := jbind e
  refine ey_iasc (cd_403 rfl) e132 ?_
  obtain ⟨a133, e134, e⟩ := jbind e
  refine ey_rs (s0 := [jI v131, jJ (jlor (jlshl (jw v127) 32) (jland (jw v129) 4294967295)), jI v125, jI v123, jR x2]) (s1 := [jI v131, jJ (jlor (jlshl (jw v127) 32) (jland (jw v129) 4294967295)), jI v125, jI v123, jR (some a133)]) (by rw [e134]) ?_
  obtain ⟨u135, e136, e⟩ := jbind e
  have w137 := jlk_s e136
  refine ey_rs (s0 := [jI v131, jJ (jlor (jlshl (jw v127) 32) (jland (jw v129) 4294967295)), jI v125, jI v123, jR (some a133)]) (s1 := [jI v131, jJ (jlor (jlshl (jw v127) 32) (jland (jw v129) 4294967295)), jI v125, jI v123, jR (some 76)]) (by rw [w137.1]) ?_
  obtain ⟨m138, e139, e⟩ := jbind e
  refine ey_cv (s0 := [jI v131, jJ (jlor (jlshl (jw v127) 32) (jland (jw v129) 4294967295)), jI v125, jI v123, jR (some 76)]) (s1 := []) (st' := []) (cd_403 rfl) mt_403 mt_216 rfl rfl rfl (by have w := jhm_is (m := jmf q121.2) w137.2.1; rw [w137.2.2.2] at w; exact w) rfl (jsml_s rfl) rfl (mm_Runs.up (d := 3) (by decide) (by have w := ok_216 (L := L) (xs := xs) (b := q121.2) (m := jmf q121.2) w137.2.1 w137.2.2.1 e139; rw [w137.2.2.2] at w; exact w)) ?_
  obtain ⟨h140, e141, e⟩ := jbind e
  obtain rfl : (jhm q121.2 m138) = h140 := Option.some.inj e141
  refine ey_aload_n (cd_403 rfl) f2 ?_
  obtain ⟨a142, e143, e⟩ := jbind e
  refine ey_rs (s0 := [jR x2]) (s1 := [jR (some a142)]) (by rw [e143]) ?_
  obtain ⟨u144, e145, e⟩ := jbind e
  have w146 := jlk_s e145
  refine ey_rs (s0 := [jR (some a142)]) (s1 := [jR (some 76)]) (by rw [w146.1]) ?_
  refine ey_cv (s0 := [jR (some 76)]) (s1 := []) (st' := [jI (jd_203 (jmf h140))]) (cd_403 rfl) mt_403 mt_203 rfl rfl rfl (by have w := jhm_is (m := jmf h140) w146.2.1; rw [w146.2.2.2] at w; exact w) rfl (jsml_s rfl) rfl (mm_Runs.up (d := 1) (by decide) (by have w := ok_203 (L := L) (xs := xs) (b := h140) (m := jmf h140) w146.2.1 w146.2.2.1 ; rw [w146.2.2.2] at w; exact w)) ?_
  refine ey_iload (cd_403 rfl) rfl ?_
  by_cases q147 : (jw (jd_203 (jmf h140))) = (jw q121.1)
  · rw [if_pos q147] at e
    refine ey_ceq (cd_403 rfl) rfl rfl rfl q147 ?_
    refine ey_goto (cd_403 rfl) rfl ?_
    exact jk_403_b3169 e K (jup lv 5 (jI q121.1)) f0 f1 f2 f3 (jup_pi (lv := lv) (j := 4) (v := jI q121.1) (z := x4) f4)
  · rw [if_neg q147] at e
    refine ey_neq (cd_403 rfl) rfl rfl rfl q147 ?_
    cases e
def jd_403_b641 (L : Nat) (xs : Nat → Int32) (x1 : Option Nat) (x2 : Option Nat) (x3 : Option Nat) (x4 : Int) (h : jH) : Option ((Int × jH) ⊕ jH) :=
  jd_403_b3169 L xs x1 x2 x3 x4 h
set_option maxRecDepth 100000 in
theorem jk_403_b641 {L : Nat} {xs : Nat → Int32} {x1 : Option Nat} {x2 : Option Nat} {x3 : Option Nat} {x4 : Int} {h : jH} {o : ((Int × jH) ⊕ jH)} {r : mm_R} (e : jd_403_b641 L xs x1 x2 x3 x4 h = some o) (K : jsm (fun s => (∀ lv : jL, lv 0 = some (jR (some 1000000)) → lv 1 = some (jR x1) → lv 2 = some (jR x2) → lv 3 = some (jR x3) → lv 4 = some (jI s.1) → ey (mm_xt L xs) 72 403 23 lv [] s.2 r)) (fun x => (∀ lv : jL, ey (mm_xt L xs) 72 403 3175 lv [] x r)) o) : ∀ lv : jL, lv 0 = some (jR (some 1000000)) → lv 1 = some (jR x1) → lv 2 = some (jR x2) → lv 3 = some (jR x3) → lv 4 = some (jI x4) → ey (mm_xt L xs) 72 403 641 lv [] h r := by
  intro lv f0 f1 f2 f3 f4
  unfold jd_403_b641 at e
  refine ey_goto (cd_403 rfl) rfl ?_
  exact jk_403_b3169 e K lv f0 f1 f2 f3 f4
def jd_403_b564 (L : Nat) (xs : Nat → Int32) (x1 : Option Nat) (x2 : Option Nat) (x3 : Option Nat) (x4 : Int) (h : jH) : Option ((Int × jH) ⊕ jH) :=
  ((jsc L xs (x4 + 1)).bind fun v149 => ((jsc L xs (x4 + 2)).bind fun v151 => ((jsc L xs (x4 + 3)).bind fun v153 => ((jd_368 x1 v149 v151 v153 x3 h).bind fun q155 => ((jsc L xs (x4 + 1)).bind fun v157 => ((jsc L xs (x4 + 2)).bind fun v159 => ((jsc L xs (x4 + 3)).bind fun v161 => ((x2).bind fun a163 => ((jlk q155.2 a163).bind fun u165 => ((jd_217 v157 v159 v161 (jmf q155.2)).bind fun q168 => ((some (jhm q155.2 q168.2)).bind fun h170 => ((x2).bind fun a172 => ((jlk h170 a172).bind fun u174 => (if (jw (jd_203 (jmf h170))) = (jw q155.1) then (if (jw q155.1) = 0 then ((x3).bind fun a179 => ((jal h170 a179 0).bind fun v181 => (if (jwl v181) = (jw q168.1) then jd_403_b641 L xs x1 x2 x3 x4 h170 else none))) else jd_403_b641 L xs x1 x2 x3 x4 h170) else none))))))))))))))
set_option maxRecDepth 100000 in
theorem jk_403_b564 {L : Nat} {xs : Nat → Int32} {x1 : Option Nat} {x2 : Option Nat} {x3 : Option Nat} {x4 : Int} {h : jH} {o : ((Int × jH) ⊕ jH)} {r : mm_R} (e : jd_403_b564 L xs x1 x2 x3 x4 h = some o) (K : jsm (fun s => (∀ lv : jL, lv 0 = some (jR (some 1000000)) → lv 1 = some (jR x1) → lv 2 = some (jR x2) → lv 3 = some (jR x3) → lv 4 = some (jI s.1) → ey (mm_xt L xs) 72 403 23 lv [] s.2 r)) (fun x => (∀ lv : jL, ey (mm_xt L xs) 72 403 3175 lv [] x r)) o) : ∀ lv : jL, lv 0 = some (jR (some 1000000)) → lv 1 = some (jR x1) → lv 2 = some (jR x2) → lv 3 = some (jR x3) → lv 4 = some (jI x4) → ey (mm_xt L xs) 72 403 564 lv [] h r := by
  intro lv f0 f1 f2 f3 f4
  unfold jd_403_b564 at e
  refine ey_aload_n (cd_403 rfl) f1 ?_
  refine ey_aload_n (cd_403 rfl) f0 ?_
  refine ey_iload (cd_403 rfl) f4 ?_
  refine ey_iconst (cd_403 rfl) ?_
  refine ey_iadd (cd_403 rfl) ?_
  obtain ⟨v149, e150, e⟩ := jbind e
  refine ey_iasc (cd_403 rfl) e150 ?_
  refine ey_aload_n (cd_403 rfl) f0 ?_
  refine ey_iload (cd_403 rfl) f4 ?_
  refine ey_iconst (cd_403 rfl) ?_
  refine ey_iadd (cd_403 rfl) ?_
  obtain ⟨v151, e152, e⟩ := jbind e
  refine ey_iasc (cd_403 rfl) e152 ?_
  refine ey_aload_n (cd_403 rfl) f0 ?_
  refine ey_iload (cd_403 rfl) f4 ?_
  refine ey_iconst (cd_403 rfl) ?_
  refine ey_iadd (cd_403 rfl) ?_
  obtain ⟨v153, e154, e⟩ := jbind e
  refine ey_iasc (cd_403 rfl) e154 ?_
  refine ey_aload_n (cd_403 rfl) f3 ?_
  obtain ⟨q155, e156, e⟩ := jbind e
  refine ey_cs (s0 := [jR x3, jI v153, jI v151, jI v149, jR x1]) (s1 := []) (st' := [jI q155.1]) (cd_403 rfl) mt_403 mt_368 rfl (by decide) rfl rfl (jsml_s rfl) rfl (mm_Runs.up (d := 4) (by decide) (ok_368 e156)) ?_
  refine ey_istore (cd_403 rfl) mt_403 rfl ?_
  refine ey_aload_n (cd_403 rfl) f2 ?_
  refine ey_aload_n (cd_403 rfl) f0 ?_
  refine ey_iload (cd_403 rfl) (jup_pi (lv := lv) (j := 4) (v := jI q155.1) (z := x4) f4) ?_
  refine ey_iconst (cd_403 rfl) ?_
  refine ey_iadd (cd_403 rfl) ?_
  obtain ⟨v157, e158, e⟩ := jbind e
  refine ey_iasc (cd_403 rfl) e158 ?_
  refine ey_aload_n (cd_403 rfl) f0 ?_
  refine ey_iload (cd_403 rfl) (jup_pi (lv := lv) (j := 4) (v := jI q155.1) (z := x4) f4) ?_
  refine ey_iconst (cd_403 rfl) ?_
  refine ey_iadd (cd_403 rfl) ?_
  obtain ⟨v159, e160, e⟩ := jbind e
  refine ey_iasc (cd_403 rfl) e160 ?_
  refine ey_aload_n (cd_403 rfl) f0 ?_
  refine ey_iload (cd_403 rfl) (jup_pi (lv := lv) (j := 4) (v := jI q155.1) (z := x4) f4) ?_
  refine ey_iconst (cd_403 rfl) ?_
  refine ey_iadd (cd_403 rfl) ?_
  obtain ⟨v161, e162, e⟩ := jbind e
  refine ey_iasc (cd_403 rfl) e162 ?_
  obtain ⟨a163, e164, e⟩ := jbind e
  refine ey_rs (s0 := [jI v161, jI v159, jI v157, jR x2]) (s1 := [jI v161, jI v159, jI v157, jR (some a163)]) (by rw [e164]) ?_
  obtain ⟨u165, e166, e⟩ := jbind e
  have w167 := jlk_s e166
  refine ey_rs (s0 := [jI v161, jI v159, jI v157, jR (some a163)]) (s1 := [jI v161, jI v159, jI v157, jR (some 76)]) (by rw [w167.1]) ?_
  obtain ⟨q168, e169, e⟩ := jbind e
  refine ey_cv (s0 := [jI v161, jI v159, jI v157, jR (some 76)]) (s1 := []) (st' := [jI q168.1]) (cd_403 rfl) mt_403 mt_217 rfl rfl rfl (by have w := jhm_is (m := jmf q155.2) w167.2.1; rw [w167.2.2.2] at w; exact w) rfl (jsml_s rfl) rfl (mm_Runs.up (d := 3) (by decide) (by have w := ok_217 (L := L) (xs := xs) (b := q155.2) (m := jmf q155.2) w167.2.1 w167.2.2.1 e169; rw [w167.2.2.2] at w; exact w)) ?_
  obtain ⟨h170, e171, e⟩ := jbind e
  obtain rfl : (jhm q155.2 q168.2) = h170 := Option.some.inj e171
  refine ey_istore (cd_403 rfl) mt_403 rfl ?_
  refine ey_aload_n (cd_403 rfl) f2 ?_
  obtain ⟨a172, e173, e⟩ := jbind e
  refine ey_rs (s0 := [jR x2]) (s1 := [jR (some a172)]) (by rw [e173]) ?_
  obtain ⟨u174, e175, e⟩ := jbind e
  have w176 := jlk_s e175
  refine ey_rs (s0 := [jR (some a172)]) (s1 := [jR (some 76)]) (by rw [w176.1]) ?_
  refine ey_cv (s0 := [jR (some 76)]) (s1 := []) (st' := [jI (jd_203 (jmf h170))]) (cd_403 rfl) mt_403 mt_203 rfl rfl rfl (by have w := jhm_is (m := jmf h170) w176.2.1; rw [w176.2.2.2] at w; exact w) rfl (jsml_s rfl) rfl (mm_Runs.up (d := 1) (by decide) (by have w := ok_203 (L := L) (xs := xs) (b := h170) (m := jmf h170) w176.2.1 w176.2.2.1 ; rw [w176.2.2.2] at w; exact w)) ?_
  refine ey_iload (cd_403 rfl) (jup_pi (lv := (jup lv 5 (jI q155.1))) (j := 5) (v := jI q168.1) (z := q155.1) rfl) ?_
  by_cases q177 : (jw (jd_203 (jmf h170))) = (jw q155.1)
  · rw [if_pos q177] at e
    refine ey_ceq (cd_403 rfl) rfl rfl rfl q177 ?_
    refine ey_iload (cd_403 rfl) (jup_pi (lv := (jup lv 5 (jI q155.1))) (j := 5) (v := jI q168.1) (z := q155.1) rfl) ?_
    by_cases q178 : (jw q155.1) = 0
    · rw [if_pos q178] at e
      refine ey_yne (cd_403 rfl) rfl rfl (fun w => w q178) ?_
      refine ey_aload_n (cd_403 rfl) f3 ?_
      refine ey_iconst (cd_403 rfl) ?_
      obtain ⟨a179, e180, e⟩ := jbind e
      refine ey_rs (s0 := [jI 0, jR x3]) (s1 := [jI 0, jR (some a179)]) (by rw [e180]) ?_
      obtain ⟨v181, e182, e⟩ := jbind e
      refine ey_lald (cd_403 rfl) e182 ?_
      refine ey_iload (cd_403 rfl) rfl ?_
      refine ey_i2l (cd_403 rfl) ?_
      refine ey_lcmp (cd_403 rfl) ?_
      by_cases q183 : (jwl v181) = (jw q168.1)
      · rw [if_pos q183] at e
        refine ey_zeq (cd_403 rfl) rfl rfl ((jlc_eq rfl (jwl_jw _)).mpr q183) ?_
        exact jk_403_b641 e K (jup (jup lv 5 (jI q155.1)) 6 (jI q168.1)) f0 f1 f2 f3 (jup_o rfl (jup_pi (lv := lv) (j := 4) (v := jI q155.1) (z := x4) f4))
      · rw [if_neg q183] at e
        refine ey_yeq (cd_403 rfl) rfl rfl (fun w => q183 ((jlc_eq rfl (jwl_jw _)).mp w)) ?_
        cases e
    · rw [if_neg q178] at e
      refine ey_zne (cd_403 rfl) rfl rfl q178 ?_
      exact jk_403_b641 e K (jup (jup lv 5 (jI q155.1)) 6 (jI q168.1)) f0 f1 f2 f3 (jup_o rfl (jup_pi (lv := lv) (j := 4) (v := jI q155.1) (z := x4) f4))
  · rw [if_neg q177] at e
    refine ey_neq (cd_403 rfl) rfl rfl rfl q177 ?_
    cases e
def jd_403_b745 (L : Nat) (xs : Nat → Int32) (x1 : Option Nat) (x2 : Option Nat) (x3 : Option Nat) (x4 : Int) (h : jH) : Option ((Int × jH) ⊕ jH) :=
  jd_403_b3169 L xs x1 x2 x3 x4 h
set_option maxRecDepth 100000 in
theorem jk_403_b745 {L : Nat} {xs : Nat → Int32} {x1 : Option Nat} {x2 : Option Nat} {x3 : Option Nat} {x4 : Int} {h : jH} {o : ((Int × jH) ⊕ jH)} {r : mm_R} (e : jd_403_b745 L xs x1 x2 x3 x4 h = some o) (K : jsm (fun s => (∀ lv : jL, lv 0 = some (jR (some 1000000)) → lv 1 = some (jR x1) → lv 2 = some (jR x2) → lv 3 = some (jR x3) → lv 4 = some (jI s.1) → ey (mm_xt L xs) 72 403 23 lv [] s.2 r)) (fun x => (∀ lv : jL, ey (mm_xt L xs) 72 403 3175 lv [] x r)) o) : ∀ lv : jL, lv 0 = some (jR (some 1000000)) → lv 1 = some (jR x1) → lv 2 = some (jR x2) → lv 3 = some (jR x3) → lv 4 = some (jI x4) → ey (mm_xt L xs) 72 403 745 lv [] h r := by
  intro lv f0 f1 f2 f3 f4
  unfold jd_403_b745 at e
  refine ey_goto (cd_403 rfl) rfl ?_
  exact jk_403_b3169 e K lv f0 f1 f2 f3 f4
def jd_403_b644 (L : Nat) (xs : Nat → Int32) (x1 : Option Nat) (x2 : Option Nat) (x3 : Option Nat) (x4 : Int) (h : jH) : Option ((Int × jH) ⊕ jH) :=
  ((jsc L xs (x4 + 1)).bind fun v185 => ((jsc L xs (x4 + 2)).bind fun v187 => ((jsc L xs (x4 + 3)).bind fun v189 => ((jsc L xs (x4 + 4)).bind fun v191 => ((jsc L xs (x4 + 5)).bind fun v193 => ((jd_369 x1 v185 v187 v189 v191 v193 x3 h).bind fun q195 => ((jsc L xs (x4 + 1)).bind fun v197 => ((jsc L xs (x4 + 2)).bind fun v199 => ((jsc L xs (x4 + 3)).bind fun v201 => ((jsc L xs (x4 + 4)).bind fun v203 => ((jsc L xs (x4 + 5)).bind fun v205 => ((x2).bind fun a207 => ((jlk q195.2 a207).bind fun u209 => ((jd_219 v197 v199 v201 v203 v205 (jmf q195.2)).bind fun q212 => ((some (jhm q195.2 q212.2)).bind fun h214 => ((x2).bind fun a216 => ((jlk h214 a216).bind fun u218 => (if (jw (jd_203 (jmf h214))) = (jw q195.1) then (if (jw q195.1) = 0 then ((x3).bind fun a223 => ((jal h214 a223 0).bind fun v225 => (if (jwl v225) = (jw q212.1) then jd_403_b745 L xs x1 x2 x3 x4 h214 else none))) else jd_403_b745 L xs x1 x2 x3 x4 h214) else none))))))))))))))))))
set_option maxRecDepth 100000 in
theorem jk_403_b644 {L : Nat} {xs : Nat → Int32} {x1 : Option Nat} {x2 : Option Nat} {x3 : Option Nat} {x4 : Int} {h : jH} {o : ((Int × jH) ⊕ jH)} {r : mm_R} (e : jd_403_b644 L xs x1 x2 x3 x4 h = some o) (K : jsm (fun s => (∀ lv : jL, lv 0 = some (jR (some 1000000)) → lv 1 = some (jR x1) → lv 2 = some (jR x2) → lv 3 = some (jR x3) → lv 4 = some (jI s.1) → ey (mm_xt L xs) 72 403 23 lv [] s.2 r)) (fun x => (∀ lv : jL, ey (mm_xt L xs) 72 403 3175 lv [] x r)) o) : ∀ lv : jL, lv 0 = some (jR (some 1000000)) → lv 1 = some (jR x1) → lv 2 = some (jR x2) → lv 3 = some (jR x3) → lv 4 = some (jI x4) → ey (mm_xt L xs) 72 403 644 lv [] h r := by
  intro lv f0 f1 f2 f3 f4
  unfold jd_403_b644 at e
  refine ey_aload_n (cd_403 rfl) f1 ?_
  refine ey_aload_n (cd_403 rfl) f0 ?_
  refine ey_iload (cd_403 rfl) f4 ?_
  refine ey_iconst (cd_403 rfl) ?_
  refine ey_iadd (cd_403 rfl) ?_
  obtain ⟨v185, e186, e⟩ := jbind e
  refine ey_iasc (cd_403 rfl) e186 ?_
  refine ey_aload_n (cd_403 rfl) f0 ?_
  refine ey_iload (cd_403 rfl) f4 ?_
  refine ey_iconst (cd_403 rfl) ?_
  refine ey_iadd (cd_403 rfl) ?_
  obtain ⟨v187, e188, e⟩ := jbind e
  refine ey_iasc (cd_403 rfl) e188 ?_
  refine ey_aload_n (cd_403 rfl) f0 ?_
  refine ey_iload (cd_403 rfl) f4 ?_
  refine ey_iconst (cd_403 rfl) ?_
  refine ey_iadd (cd_403 rfl) ?_
  obtain ⟨v189, e190, e⟩ := jbind e
  refine ey_iasc (cd_403 rfl) e190 ?_
  refine ey_aload_n (cd_403 rfl) f0 ?_
  refine ey_iload (cd_403 rfl) f4 ?_
  refine ey_iconst (cd_403 rfl) ?_
  refine ey_iadd (cd_403 rfl) ?_
  obtain ⟨v191, e192, e⟩ := jbind e
  refine ey_iasc (cd_403 rfl) e192 ?_
  refine ey_aload_n (cd_403 rfl) f0 ?_
  refine ey_iload (cd_403 rfl) f4 ?_
  refine ey_iconst (cd_403 rfl) ?_
  refine ey_iadd (cd_403 rfl) ?_
  obtain ⟨v193, e194, e⟩ := jbind e
  refine ey_iasc (cd_403 rfl) e194 ?_
  refine ey_aload_n (cd_403 rfl) f3 ?_
  obtain ⟨q195, e196, e⟩ := jbind e
  refine ey_cs (s0 := [jR x3, jI v193, jI v191, jI v189, jI v187, jI v185, jR x1]) (s1 := []) (st' := [jI q195.1]) (cd_403 rfl) mt_403 mt_369 rfl (by decide) rfl rfl (jsml_s rfl) rfl (mm_Runs.up (d := 4) (by decide) (ok_369 e196)) ?_
  refine ey_istore (cd_403 rfl) mt_403 rfl ?_
  refine ey_aload_n (cd_403 rfl) f2 ?_
  refine ey_aload_n (cd_403 rfl) f0 ?_
  refine ey_iload (cd_403 rfl) (jup_pi (lv := lv) (j := 4) (v := jI q195.1) (z := x4) f4) ?_
  refine ey_iconst (cd_403 rfl) ?_
  refine ey_iadd (cd_403 rfl) ?_
  obtain ⟨v197, e198, e⟩ := jbind e
  refine ey_iasc (cd_403 rfl) e198 ?_
  refine ey_aload_n (cd_403 rfl) f0 ?_
  refine ey_iload (cd_403 rfl) (jup_pi (lv := lv) (j := 4) (v := jI q195.1) (z := x4) f4) ?_
  refine ey_iconst (cd_403 rfl) ?_
  refine ey_iadd (cd_403 rfl) ?_
  obtain ⟨v199, e200, e⟩ := jbind e
  refine ey_iasc (cd_403 rfl) e200 ?_
  refine ey_aload_n (cd_403 rfl) f0 ?_
  refine ey_iload (cd_403 rfl) (jup_pi (lv := lv) (j := 4) (v := jI q195.1) (z := x4) f4) ?_
  refine ey_iconst (cd_403 rfl) ?_
  refine ey_iadd (cd_403 rfl) ?_
  obtain ⟨v201, e202, e⟩ := jbind e
  refine ey_iasc (cd_403 rfl) e202 ?_
  refine ey_aload_n (cd_403 rfl) f0 ?_
  refine ey_iload (cd_403 rfl) (jup_pi (lv := lv) (j := 4) (v := jI q195.1) (z := x4) f4) ?_
  refine ey_iconst (cd_403 rfl) ?_
  refine ey_iadd (cd_403 rfl) ?_
  obtain ⟨v203, e204, e⟩ := jbind e
  refine ey_iasc (cd_403 rfl) e204 ?_
  refine ey_aload_n (cd_403 rfl) f0 ?_
  refine ey_iload (cd_403 rfl) (jup_pi (lv := lv) (j := 4) (v := jI q195.1) (z := x4) f4) ?_
  refine ey_iconst (cd_403 rfl) ?_
  refine ey_iadd (cd_403 rfl) ?_
  obtain ⟨v205, e206, e⟩ := jbind e
  refine ey_iasc (cd_403 rfl) e206 ?_
  obtain ⟨a207, e208, e⟩ := jbind e
  refine ey_rs (s0 := [jI v205, jI v203, jI v201, jI v199, jI v197, jR x2]) (s1 := [jI v205, jI v203, jI v201, jI v199, jI v197, jR (some a207)]) (by rw [e208]) ?_
  obtain ⟨u209, e210, e⟩ := jbind e
  have w211 := jlk_s e210
  refine ey_rs (s0 := [jI v205, jI v203, jI v201, jI v199, jI v197, jR (some a207)]) (s1 := [jI v205, jI v203, jI v201, jI v199, jI v197, jR (some 76)]) (by rw [w211.1]) ?_
  obtain ⟨q212, e213, e⟩ := jbind e
  refine ey_cv (s0 := [jI v205, jI v203, jI v201, jI v199, jI v197, jR (some 76)]) (s1 := []) (st' := [jI q212.1]) (cd_403 rfl) mt_403 mt_219 rfl rfl rfl (by have w := jhm_is (m := jmf q195.2) w211.2.1; rw [w211.2.2.2] at w; exact w) rfl (jsml_s rfl) rfl (mm_Runs.up (d := 4) (by decide) (by have w := ok_219 (L := L) (xs := xs) (b := q195.2) (m := jmf q195.2) w211.2.1 w211.2.2.1 e213; rw [w211.2.2.2] at w; exact w)) ?_
  obtain ⟨h214, e215, e⟩ := jbind e
  obtain rfl : (jhm q195.2 q212.2) = h214 := Option.some.inj e215
  refine ey_istore (cd_403 rfl) mt_403 rfl ?_
  refine ey_aload_n (cd_403 rfl) f2 ?_
  obtain ⟨a216, e217, e⟩ := jbind e
  refine ey_rs (s0 := [jR x2]) (s1 := [jR (some a216)]) (by rw [e217]) ?_
  obtain ⟨u218, e219, e⟩ := jbind e
  have w220 := jlk_s e219
  refine ey_rs (s0 := [jR (some a216)]) (s1 := [jR (some 76)]) (by rw [w220.1]) ?_
  refine ey_cv (s0 := [jR (some 76)]) (s1 := []) (st' := [jI (jd_203 (jmf h214))]) (cd_403 rfl) mt_403 mt_203 rfl rfl rfl (by have w := jhm_is (m := jmf h214) w220.2.1; rw [w220.2.2.2] at w; exact w) rfl (jsml_s rfl) rfl (mm_Runs.up (d := 1) (by decide) (by have w := ok_203 (L := L) (xs := xs) (b := h214) (m := jmf h214) w220.2.1 w220.2.2.1 ; rw [w220.2.2.2] at w; exact w)) ?_
  refine ey_iload (cd_403 rfl) (jup_pi (lv := (jup lv 5 (jI q195.1))) (j := 5) (v := jI q212.1) (z := q195.1) rfl) ?_
  by_cases q221 : (jw (jd_203 (jmf h214))) = (jw q195.1)
  · rw [if_pos q221] at e
    refine ey_ceq (cd_403 rfl) rfl rfl rfl q221 ?_
    refine ey_iload (cd_403 rfl) (jup_pi (lv := (jup lv 5 (jI q195.1))) (j := 5) (v := jI q212.1) (z := q195.1) rfl) ?_
    by_cases q222 : (jw q195.1) = 0
    · rw [if_pos q222] at e
      refine ey_yne (cd_403 rfl) rfl rfl (fun w => w q222) ?_
      refine ey_aload_n (cd_403 rfl) f3 ?_
      refine ey_iconst (cd_403 rfl) ?_
      obtain ⟨a223, e224, e⟩ := jbind e
      refine ey_rs (s0 := [jI 0, jR x3]) (s1 := [jI 0, jR (some a223)]) (by rw [e224]) ?_
      obtain ⟨v225, e226, e⟩ := jbind e
      refine ey_lald (cd_403 rfl) e226 ?_
      refine ey_iload (cd_403 rfl) rfl ?_
      refine ey_i2l (cd_403 rfl) ?_
      refine ey_lcmp (cd_403 rfl) ?_
      by_cases q227 : (jwl v225) = (jw q212.1)
      · rw [if_pos q227] at e
        refine ey_zeq (cd_403 rfl) rfl rfl ((jlc_eq rfl (jwl_jw _)).mpr q227) ?_
        exact jk_403_b745 e K (jup (jup lv 5 (jI q195.1)) 6 (jI q212.1)) f0 f1 f2 f3 (jup_o rfl (jup_pi (lv := lv) (j := 4) (v := jI q195.1) (z := x4) f4))
      · rw [if_neg q227] at e
        refine ey_yeq (cd_403 rfl) rfl rfl (fun w => q227 ((jlc_eq rfl (jwl_jw _)).mp w)) ?_
        cases e
    · rw [if_neg q222] at e
      refine ey_zne (cd_403 rfl) rfl rfl q222 ?_
      exact jk_403_b745 e K (jup (jup lv 5 (jI q195.1)) 6 (jI q212.1)) f0 f1 f2 f3 (jup_o rfl (jup_pi (lv := lv) (j := 4) (v := jI q195.1) (z := x4) f4))
  · rw [if_neg q221] at e
    refine ey_neq (cd_403 rfl) rfl rfl rfl q221 ?_
    cases e
def jd_403_b837 (L : Nat) (xs : Nat → Int32) (x1 : Option Nat) (x2 : Option Nat) (x3 : Option Nat) (x4 : Int) (h : jH) : Option ((Int × jH) ⊕ jH) :=
  jd_403_b3169 L xs x1 x2 x3 x4 h
set_option maxRecDepth 100000 in
theorem jk_403_b837 {L : Nat} {xs : Nat → Int32} {x1 : Option Nat} {x2 : Option Nat} {x3 : Option Nat} {x4 : Int} {h : jH} {o : ((Int × jH) ⊕ jH)} {r : mm_R} (e : jd_403_b837 L xs x1 x2 x3 x4 h = some o) (K : jsm (fun s => (∀ lv : jL, lv 0 = some (jR (some 1000000)) → lv 1 = some (jR x1) → lv 2 = some (jR x2) → lv 3 = some (jR x3) → lv 4 = some (jI s.1) → ey (mm_xt L xs) 72 403 23 lv [] s.2 r)) (fun x => (∀ lv : jL, ey (mm_xt L xs) 72 403 3175 lv [] x r)) o) : ∀ lv : jL, lv 0 = some (jR (some 1000000)) → lv 1 = some (jR x1) → lv 2 = some (jR x2) → lv 3 = some (jR x3) → lv 4 = some (jI x4) → ey (mm_xt L xs) 72 403 837 lv [] h r := by
  intro lv f0 f1 f2 f3 f4
  unfold jd_403_b837 at e
  refine ey_goto (cd_403 rfl) rfl ?_
  exact jk_403_b3169 e K lv f0 f1 f2 f3 f4
def jd_403_b748 (L : Nat) (xs : Nat → Int32) (x1 : Option Nat) (x2 : Option Nat) (x3 : Option Nat) (x4 : Int) (h : jH) : Option ((Int × jH) ⊕ jH) :=
  ((jsc L xs (x4 + 1)).bind fun v229 => ((jsc L xs (x4 + 2)).bind fun v231 => ((jsc L xs (x4 + 3)).bind fun v233 => ((jsc L xs (x4 + 4)).bind fun v235 => ((jd_370 x1 v229 v231 v233 v235 x3 h).bind fun q237 => ((jsc L xs (x4 + 1)).bind fun v239 => ((jsc L xs (x4 + 2)).bind fun v241 => ((jsc L xs (x4 + 3)).bind fun v243 => ((jsc L xs (x4 + 4)).bind fun v245 => ((x2).bind fun a247 => ((jlk q237.2 a247).bind fun u249 => ((jd_220 v239 v241 v243 v245 (jmf q237.2)).bind fun q252 => ((some (jhm q237.2 q252.2)).bind fun h254 => ((x2).bind fun a256 => ((jlk h254 a256).bind fun u258 => (if (jw (jd_203 (jmf h254))) = (jw q237.1) then (if (jw q237.1) = 0 then ((x3).bind fun a263 => ((jal h254 a263 0).bind fun v265 => (if (jwl v265) = (jw q252.1) then jd_403_b837 L xs x1 x2 x3 x4 h254 else none))) else jd_403_b837 L xs x1 x2 x3 x4 h254) else none))))))))))))))))
set_option maxRecDepth 100000 in
theorem jk_403_b748 {L : Nat} {xs : Nat → Int32} {x1 : Option Nat} {x2 : Option Nat} {x3 : Option Nat} {x4 : Int} {h : jH} {o : ((Int × jH) ⊕ jH)} {r : mm_R} (e : jd_403_b748 L xs x1 x2 x3 x4 h = some o) (K : jsm (fun s => (∀ lv : jL, lv 0 = some (jR (some 1000000)) → lv 1 = some (jR x1) → lv 2 = some (jR x2) → lv 3 = some (jR x3) → lv 4 = some (jI s.1) → ey (mm_xt L xs) 72 403 23 lv [] s.2 r)) (fun x => (∀ lv : jL, ey (mm_xt L xs) 72 403 3175 lv [] x r)) o) : ∀ lv : jL, lv 0 = some (jR (some 1000000)) → lv 1 = some (jR x1) → lv 2 = some (jR x2) → lv 3 = some (jR x3) → lv 4 = some (jI x4) → ey (mm_xt L xs) 72 403 748 lv [] h r := by
  intro lv f0 f1 f2 f3 f4
  unfold jd_403_b748 at e
  refine ey_aload_n (cd_403 rfl) f1 ?_
  refine ey_aload_n (cd_403 rfl) f0 ?_
  refine ey_iload (cd_403 rfl) f4 ?_
  refine ey_iconst (cd_403 rfl) ?_
  refine ey_iadd (cd_403 rfl) ?_
  obtain ⟨v229, e230, e⟩ := jbind e
  refine ey_iasc (cd_403 rfl) e230 ?_
  refine ey_aload_n (cd_403 rfl) f0 ?_
  refine ey_iload (cd_403 rfl) f4 ?_
  refine ey_iconst (cd_403 rfl) ?_
  refine ey_iadd (cd_403 rfl) ?_
  obtain ⟨v231, e232, e⟩ := jbind e
  refine ey_iasc (cd_403 rfl) e232 ?_
  refine ey_aload_n (cd_403 rfl) f0 ?_
  refine ey_iload (cd_403 rfl) f4 ?_
  refine ey_iconst (cd_403 rfl) ?_
  refine ey_iadd (cd_403 rfl) ?_
  obtain ⟨v233, e234, e⟩ := jbind e
  refine ey_iasc (cd_403 rfl) e234 ?_
  refine ey_aload_n (cd_403 rfl) f0 ?_
  refine ey_iload (cd_403 rfl) f4 ?_
  refine ey_iconst (cd_403 rfl) ?_
  refine ey_iadd (cd_403 rfl) ?_
  obtain ⟨v235, e236, e⟩ := jbind e
  refine ey_iasc (cd_403 rfl) e236 ?_
  refine ey_aload_n (cd_403 rfl) f3 ?_
  obtain ⟨q237, e238, e⟩ := jbind e
  refine ey_cs (s0 := [jR x3, jI v235, jI v233, jI v231, jI v229, jR x1]) (s1 := []) (st' := [jI q237.1]) (cd_403 rfl) mt_403 mt_370 rfl (by decide) rfl rfl (jsml_s rfl) rfl (mm_Runs.up (d := 4) (by decide) (ok_370 e238)) ?_
  refine ey_istore (cd_403 rfl) mt_403 rfl ?_
  refine ey_aload_n (cd_403 rfl) f2 ?_
  refine ey_aload_n (cd_403 rfl) f0 ?_
  refine ey_iload (cd_403 rfl) (jup_pi (lv := lv) (j := 4) (v := jI q237.1) (z := x4) f4) ?_
  refine ey_iconst (cd_403 rfl) ?_
  refine ey_iadd (cd_403 rfl) ?_
  obtain ⟨v239, e240, e⟩ := jbind e
  refine ey_iasc (cd_403 rfl) e240 ?_
  refine ey_aload_n (cd_403 rfl) f0 ?_
  refine ey_iload (cd_403 rfl) (jup_pi (lv := lv) (j := 4) (v := jI q237.1) (z := x4) f4) ?_
  refine ey_iconst (cd_403 rfl) ?_
  refine ey_iadd (cd_403 rfl) ?_
  obtain ⟨v241, e242, e⟩ := jbind e
  refine ey_iasc (cd_403 rfl) e242 ?_
  refine ey_aload_n (cd_403 rfl) f0 ?_
  refine ey_iload (cd_403 rfl) (jup_pi (lv := lv) (j := 4) (v := jI q237.1) (z := x4) f4) ?_
  refine ey_iconst (cd_403 rfl) ?_
  refine ey_iadd (cd_403 rfl) ?_
  obtain ⟨v243, e244, e⟩ := jbind e
  refine ey_iasc (cd_403 rfl) e244 ?_
  refine ey_aload_n (cd_403 rfl) f0 ?_
  refine ey_iload (cd_403 rfl) (jup_pi (lv := lv) (j := 4) (v := jI q237.1) (z := x4) f4) ?_
  refine ey_iconst (cd_403 rfl) ?_
  refine ey_iadd (cd_403 rfl) ?_
  obtain ⟨v245, e246, e⟩ := jbind e
  refine ey_iasc (cd_403 rfl) e246 ?_
  obtain ⟨a247, e248, e⟩ := jbind e
  refine ey_rs (s0 := [jI v245, jI v243, jI v241, jI v239, jR x2]) (s1 := [jI v245, jI v243, jI v241, jI v239, jR (some a247)]) (by rw [e248]) ?_
  obtain ⟨u249, e250, e⟩ := jbind e
  have w251 := jlk_s e250
  refine ey_rs (s0 := [jI v245, jI v243, jI v241, jI v239, jR (some a247)]) (s1 := [jI v245, jI v243, jI v241, jI v239, jR (some 76)]) (by rw [w251.1]) ?_
  obtain ⟨q252, e253, e⟩ := jbind e
  refine ey_cv (s0 := [jI v245, jI v243, jI v241, jI v239, jR (some 76)]) (s1 := []) (st' := [jI q252.1]) (cd_403 rfl) mt_403 mt_220 rfl rfl rfl (by have w := jhm_is (m := jmf q237.2) w251.2.1; rw [w251.2.2.2] at w; exact w) rfl (jsml_s rfl) rfl (mm_Runs.up (d := 4) (by decide) (by have w := ok_220 (L := L) (xs := xs) (b := q237.2) (m := jmf q237.2) w251.2.1 w251.2.2.1 e253; rw [w251.2.2.2] at w; exact w)) ?_
  obtain ⟨h254, e255, e⟩ := jbind e
  obtain rfl : (jhm q237.2 q252.2) = h254 := Option.some.inj e255
  refine ey_istore (cd_403 rfl) mt_403 rfl ?_
  refine ey_aload_n (cd_403 rfl) f2 ?_
  obtain ⟨a256, e257, e⟩ := jbind e
  refine ey_rs (s0 := [jR x2]) (s1 := [jR (some a256)]) (by rw [e257]) ?_
  obtain ⟨u258, e259, e⟩ := jbind e
  have w260 := jlk_s e259
  refine ey_rs (s0 := [jR (some a256)]) (s1 := [jR (some 76)]) (by rw [w260.1]) ?_
  refine ey_cv (s0 := [jR (some 76)]) (s1 := []) (st' := [jI (jd_203 (jmf h254))]) (cd_403 rfl) mt_403 mt_203 rfl rfl rfl (by have w := jhm_is (m := jmf h254) w260.2.1; rw [w260.2.2.2] at w; exact w) rfl (jsml_s rfl) rfl (mm_Runs.up (d := 1) (by decide) (by have w := ok_203 (L := L) (xs := xs) (b := h254) (m := jmf h254) w260.2.1 w260.2.2.1 ; rw [w260.2.2.2] at w; exact w)) ?_
  refine ey_iload (cd_403 rfl) (jup_pi (lv := (jup lv 5 (jI q237.1))) (j := 5) (v := jI q252.1) (z := q237.1) rfl) ?_
  by_cases q261 : (jw (jd_203 (jmf h254))) = (jw q237.1)
  · rw [if_pos q261] at e
    refine ey_ceq (cd_403 rfl) rfl rfl rfl q261 ?_
    refine ey_iload (cd_403 rfl) (jup_pi (lv := (jup lv 5 (jI q237.1))) (j := 5) (v := jI q252.1) (z := q237.1) rfl) ?_
    by_cases q262 : (jw q237.1) = 0
    · rw [if_pos q262] at e
      refine ey_yne (cd_403 rfl) rfl rfl (fun w => w q262) ?_
      refine ey_aload_n (cd_403 rfl) f3 ?_
      refine ey_iconst (cd_403 rfl) ?_
      obtain ⟨a263, e264, e⟩ := jbind e
      refine ey_rs (s0 := [jI 0, jR x3]) (s1 := [jI 0, jR (some a263)]) (by rw [e264]) ?_
      obtain ⟨v265, e266, e⟩ := jbind e
      refine ey_lald (cd_403 rfl) e266 ?_
      refine ey_iload (cd_403 rfl) rfl ?_
      refine ey_i2l (cd_403 rfl) ?_
      refine ey_lcmp (cd_403 rfl) ?_
      by_cases q267 : (jwl v265) = (jw q252.1)
      · rw [if_pos q267] at e
        refine ey_zeq (cd_403 rfl) rfl rfl ((jlc_eq rfl (jwl_jw _)).mpr q267) ?_
        exact jk_403_b837 e K (jup (jup lv 5 (jI q237.1)) 6 (jI q252.1)) f0 f1 f2 f3 (jup_o rfl (jup_pi (lv := lv) (j := 4) (v := jI q237.1) (z := x4) f4))
      · rw [if_neg q267] at e
        refine ey_yeq (cd_403 rfl) rfl rfl (fun w => q267 ((jlc_eq rfl (jwl_jw _)).mp w)) ?_
        cases e
    · rw [if_neg q262] at e
      refine ey_zne (cd_403 rfl) rfl rfl q262 ?_
      exact jk_403_b837 e K (jup (jup lv 5 (jI q237.1)) 6 (jI q252.1)) f0 f1 f2 f3 (jup_o rfl (jup_pi (lv := lv) (j := 4) (v := jI q237.1) (z := x4) f4))
  · rw [if_neg q261] at e
    refine ey_neq (cd_403 rfl) rfl rfl rfl q261 ?_
    cases e
def jd_403_b905 (L : Nat) (xs : Nat → Int32) (x1 : Option Nat) (x2 : Option Nat) (x3 : Option Nat) (x4 : Int) (h : jH) : Option ((Int × jH) ⊕ jH) :=
  jd_403_b3169 L xs x1 x2 x3 x4 h
set_option maxRecDepth 100000 in
theorem jk_403_b905 {L : Nat} {xs : Nat → Int32} {x1 : Option Nat} {x2 : Option Nat} {x3 : Option Nat} {x4 : Int} {h : jH} {o : ((Int × jH) ⊕ jH)} {r : mm_R} (e : jd_403_b905 L xs x1 x2 x3 x4 h = some o) (K : jsm (fun s => (∀ lv : jL, lv 0 = some (jR (some 1000000)) → lv 1 = some (jR x1) → lv 2 = some (jR x2) → lv 3 = some (jR x3) → lv 4 = some (jI s.1) → ey (mm_xt L xs) 72 403 23 lv [] s.2 r)) (fun x => (∀ lv : jL, ey (mm_xt L xs) 72 403 3175 lv [] x r)) o) : ∀ lv : jL, lv 0 = some (jR (some 1000000)) → lv 1 = some (jR x1) → lv 2 = some (jR x2) → lv 3 = some (jR x3) → lv 4 = some (jI x4) → ey (mm_xt L xs) 72 403 905 lv [] h r := by
  intro lv f0 f1 f2 f3 f4
  unfold jd_403_b905 at e
  refine ey_goto (cd_403 rfl) rfl ?_
  exact jk_403_b3169 e K lv f0 f1 f2 f3 f4
def jd_403_b840 (L : Nat) (xs : Nat → Int32) (x1 : Option Nat) (x2 : Option Nat) (x3 : Option Nat) (x4 : Int) (h : jH) : Option ((Int × jH) ⊕ jH) :=
  ((jsc L xs (x4 + 1)).bind fun v269 => ((jsc L xs (x4 + 2)).bind fun v271 => ((jd_371 x1 v269 v271 x3 h).bind fun q273 => ((jsc L xs (x4 + 1)).bind fun v275 => ((jsc L xs (x4 + 2)).bind fun v277 => ((x2).bind fun a279 => ((jlk q273.2 a279).bind fun u281 => ((jd_221 v275 v277 (jmf q273.2)).bind fun q284 => ((some (jhm q273.2 q284.2)).bind fun h286 => ((x2).bind fun a288 => ((jlk h286 a288).bind fun u290 => (if (jw (jd_203 (jmf h286))) = (jw q273.1) then (if (jw q273.1) = 0 then ((x3).bind fun a295 => ((jal h286 a295 0).bind fun v297 => (if (jwl v297) = (jw q284.1) then jd_403_b905 L xs x1 x2 x3 x4 h286 else none))) else jd_403_b905 L xs x1 x2 x3 x4 h286) else none))))))))))))
set_option maxRecDepth 100000 in
theorem jk_403_b840 {L : Nat} {xs : Nat → Int32} {x1 : Option Nat} {x2 : Option Nat} {x3 : Option Nat} {x4 : Int} {h : jH} {o : ((Int × jH) ⊕ jH)} {r : mm_R} (e : jd_403_b840 L xs x1 x2 x3 x4 h = some o) (K : jsm (fun s => (∀ lv : jL, lv 0 = some (jR (some 1000000)) → lv 1 = some (jR x1) → lv 2 = some (jR x2) → lv 3 = some (jR x3) → lv 4 = some (jI s.1) → ey (mm_xt L xs) 72 403 23 lv [] s.2 r)) (fun x => (∀ lv : jL, ey (mm_xt L xs) 72 403 3175 lv [] x r)) o) : ∀ lv : jL, lv 0 = some (jR (some 1000000)) → lv 1 = some (jR x1) → lv 2 = some (jR x2) → lv 3 = some (jR x3) → lv 4 = some (jI x4) → ey (mm_xt L xs) 72 403 840 lv [] h r := by
  intro lv f0 f1 f2 f3 f4
  unfold jd_403_b840 at e
  refine ey_aload_n (cd_403 rfl) f1 ?_
  refine ey_aload_n (cd_403 rfl) f0 ?_
  refine ey_iload (cd_403 rfl) f4 ?_
  refine ey_iconst (cd_403 rfl) ?_
  refine ey_iadd (cd_403 rfl) ?_
  obtain ⟨v269, e270, e⟩ := jbind e
  refine ey_iasc (cd_403 rfl) e270 ?_
  refine ey_aload_n (cd_403 rfl) f0 ?_
  refine ey_iload (cd_403 rfl) f4 ?_
  refine ey_iconst (cd_403 rfl) ?_
  refine ey_iadd (cd_403 rfl) ?_
  obtain ⟨v271, e272, e⟩ := jbind e
  refine ey_iasc (cd_403 rfl) e272 ?_
  refine ey_aload_n (cd_403 rfl) f3 ?_
  obtain ⟨q273, e274, e⟩ := jbind e
  refine ey_cs (s0 := [jR x3, jI v271, jI v269, jR x1]) (s1 := []) (st' := [jI q273.1]) (cd_403 rfl) mt_403 mt_371 rfl (by decide) rfl rfl (jsml_s rfl) rfl (mm_Runs.up (d := 3) (by decide) (ok_371 e274)) ?_
  refine ey_istore (cd_403 rfl) mt_403 rfl ?_
  refine ey_aload_n (cd_403 rfl) f2 ?_
  refine ey_aload_n (cd_403 rfl) f0 ?_
  refine ey_iload (cd_403 rfl) (jup_pi (lv := lv) (j := 4) (v := jI q273.1) (z := x4) f4) ?_
  refine ey_iconst (cd_403 rfl) ?_
  refine ey_iadd (cd_403 rfl) ?_
  obtain ⟨v275, e276, e⟩ := jbind e
  refine ey_iasc (cd_403 rfl) e276 ?_
  refine ey_aload_n (cd_403 rfl) f0 ?_
  refine ey_iload (cd_403 rfl) (jup_pi (lv := lv) (j := 4) (v := jI q273.1) (z := x4) f4) ?_
  refine ey_iconst (cd_403 rfl) ?_
  refine ey_iadd (cd_403 rfl) ?_
  obtain ⟨v277, e278, e⟩ := jbind e
  refine ey_iasc (cd_403 rfl) e278 ?_
  obtain ⟨a279, e280, e⟩ := jbind e
  refine ey_rs (s0 := [jI v277, jI v275, jR x2]) (s1 := [jI v277, jI v275, jR (some a279)]) (by rw [e280]) ?_
  obtain ⟨u281, e282, e⟩ := jbind e
  have w283 := jlk_s e282
  refine ey_rs (s0 := [jI v277, jI v275, jR (some a279)]) (s1 := [jI v277, jI v275, jR (some 76)]) (by rw [w283.1]) ?_
  obtain ⟨q284, e285, e⟩ := jbind e
  refine ey_cv (s0 := [jI v277, jI v275, jR (some 76)]) (s1 := []) (st' := [jI q284.1]) (cd_403 rfl) mt_403 mt_221 rfl rfl rfl (by have w := jhm_is (m := jmf q273.2) w283.2.1; rw [w283.2.2.2] at w; exact w) rfl (jsml_s rfl) rfl (mm_Runs.up (d := 3) (by decide) (by have w := ok_221 (L := L) (xs := xs) (b := q273.2) (m := jmf q273.2) w283.2.1 w283.2.2.1 e285; rw [w283.2.2.2] at w; exact w)) ?_
  obtain ⟨h286, e287, e⟩ := jbind e
  obtain rfl : (jhm q273.2 q284.2) = h286 := Option.some.inj e287
  refine ey_istore (cd_403 rfl) mt_403 rfl ?_
  refine ey_aload_n (cd_403 rfl) f2 ?_
  obtain ⟨a288, e289, e⟩ := jbind e
  refine ey_rs (s0 := [jR x2]) (s1 := [jR (some a288)]) (by rw [e289]) ?_
  obtain ⟨u290, e291, e⟩ := jbind e
  have w292 := jlk_s e291
  refine ey_rs (s0 := [jR (some a288)]) (s1 := [jR (some 76)]) (by rw [w292.1]) ?_
  refine ey_cv (s0 := [jR (some 76)]) (s1 := []) (st' := [jI (jd_203 (jmf h286))]) (cd_403 rfl) mt_403 mt_203 rfl rfl rfl (by have w := jhm_is (m := jmf h286) w292.2.1; rw [w292.2.2.2] at w; exact w) rfl (jsml_s rfl) rfl (mm_Runs.up (d := 1) (by decide) (by have w := ok_203 (L := L) (xs := xs) (b := h286) (m := jmf h286) w292.2.1 w292.2.2.1 ; rw [w292.2.2.2] at w; exact w)) ?_
  refine ey_iload (cd_403 rfl) (jup_pi (lv := (jup lv 5 (jI q273.1))) (j := 5) (v := jI q284.1) (z := q273.1) rfl) ?_
  by_cases q293 : (jw (jd_203 (jmf h286))) = (jw q273.1)
  · rw [if_pos q293] at e
    refine ey_ceq (cd_403 rfl) rfl rfl rfl q293 ?_
    refine ey_iload (cd_403 rfl) (jup_pi (lv := (jup lv 5 (jI q273.1))) (j := 5) (v := jI q284.1) (z := q273.1) rfl) ?_
    by_cases q294 : (jw q273.1) = 0
    · rw [if_pos q294] at e
      refine ey_yne (cd_403 rfl) rfl rfl (fun w => w q294) ?_
      refine ey_aload_n (cd_403 rfl) f3 ?_
      refine ey_iconst (cd_403 rfl) ?_
      obtain ⟨a295, e296, e⟩ := jbind e
      refine ey_rs (s0 := [jI 0, jR x3]) (s1 := [jI 0, jR (some a295)]) (by rw [e296]) ?_
      obtain ⟨v297, e298, e⟩ := jbind e
      refine ey_lald (cd_403 rfl) e298 ?_
      refine ey_iload (cd_403 rfl) rfl ?_
      refine ey_i2l (cd_403 rfl) ?_
      refine ey_lcmp (cd_403 rfl) ?_
      by_cases q299 : (jwl v297) = (jw q284.1)
      · rw [if_pos q299] at e
        refine ey_zeq (cd_403 rfl) rfl rfl ((jlc_eq rfl (jwl_jw _)).mpr q299) ?_
        exact jk_403_b905 e K (jup (jup lv 5 (jI q273.1)) 6 (jI q284.1)) f0 f1 f2 f3 (jup_o rfl (jup_pi (lv := lv) (j := 4) (v := jI q273.1) (z := x4) f4))
      · rw [if_neg q299] at e
        refine ey_yeq (cd_403 rfl) rfl rfl (fun w => q299 ((jlc_eq rfl (jwl_jw _)).mp w)) ?_
        cases e
    · rw [if_neg q294] at e
      refine ey_zne (cd_403 rfl) rfl rfl q294 ?_
      exact jk_403_b905 e K (jup (jup lv 5 (jI q273.1)) 6 (jI q284.1)) f0 f1 f2 f3 (jup_o rfl (jup_pi (lv := lv) (j := 4) (v := jI q273.1) (z := x4) f4))
  · rw [if_neg q293] at e
    refine ey_neq (cd_403 rfl) rfl rfl rfl q293 ?_
    cases e
def jd_403_b961 (L : Nat) (xs : Nat → Int32) (x1 : Option Nat) (x2 : Option Nat) (x3 : Option Nat) (x4 : Int) (h : jH) : Option ((Int × jH) ⊕ jH) :=
  jd_403_b3169 L xs x1 x2 x3 x4 h
set_option maxRecDepth 100000 in
theorem jk_403_b961 {L : Nat} {xs : Nat → Int32} {x1 : Option Nat} {x2 : Option Nat} {x3 : Option Nat} {x4 : Int} {h : jH} {o : ((Int × jH) ⊕ jH)} {r : mm_R} (e : jd_403_b961 L xs x1 x2 x3 x4 h = some o) (K : jsm (fun s => (∀ lv : jL, lv 0 = some (jR (some 1000000)) → lv 1 = some (jR x1) → lv 2 = some (jR x2) → lv 3 = some (jR x3) → lv 4 = some (jI s.1) → ey (mm_xt L xs) 72 403 23 lv [] s.2 r)) (fun x => (∀ lv : jL, ey (mm_xt L xs) 72 403 3175 lv [] x r)) o) : ∀ lv : jL, lv 0 = some (jR (some 1000000)) → lv 1 = some (jR x1) → lv 2 = some (jR x2) → lv 3 = some (jR x3) → lv 4 = some (jI x4) → ey (mm_xt L xs) 72 403 961 lv [] h r := by
  intro lv f0 f1 f2 f3 f4
  unfold jd_403_b961 at e
  refine ey_goto (cd_403 rfl) rfl ?_
  exact jk_403_b3169 e K lv f0 f1 f2 f3 f4
def jd_403_b908 (L : Nat) (xs : Nat → Int32) (x1 : Option Nat) (x2 : Option Nat) (x3 : Option Nat) (x4 : Int) (h : jH) : Option ((Int × jH) ⊕ jH) :=
  ((jsc L xs (x4 + 1)).bind fun v301 => ((jd_372 x1 v301 x3 h).bind fun q303 => ((jsc L xs (x4 + 1)).bind fun v305 => ((x2).bind fun a307 => ((jlk q303.2 a307).bind fun u309 => ((jd_222 v305 (jmf q303.2)).bind fun q312 => ((some (jhm q303.2 q312.2)).bind fun h314 => ((x2).bind fun a316 => ((jlk h314 a316).bind fun u318 => (if (jw (jd_203 (jmf h314))) = (jw q303.1) then (if (jw q303.1) = 0 then ((x3).bind fun a323 => ((jal h314 a323 0).bind fun v325 => (if (jwl v325) = (jw q312.1) then jd_403_b961 L xs x1 x2 x3 x4 h314 else none))) else jd_403_b961 L xs x1 x2 x3 x4 h314) else none))))))))))
set_option maxRecDepth 100000 in
theorem jk_403_b908 {L : Nat} {xs : Nat → Int32} {x1 : Option Nat} {x2 : Option Nat} {x3 : Option Nat} {x4 : Int} {h : jH} {o : ((Int × jH) ⊕ jH)} {r : mm_R} (e : jd_403_b908 L xs x1 x2 x3 x4 h = some o) (K : jsm (fun s => (∀ lv : jL, lv 0 = some (jR (some 1000000)) → lv 1 = some (jR x1) → lv 2 = some (jR x2) → lv 3 = some (jR x3) → lv 4 = some (jI s.1) → ey (mm_xt L xs) 72 403 23 lv [] s.2 r)) (fun x => (∀ lv : jL, ey (mm_xt L xs) 72 403 3175 lv [] x r)) o) : ∀ lv : jL, lv 0 = some (jR (some 1000000)) → lv 1 = some (jR x1) → lv 2 = some (jR x2) → lv 3 = some (jR x3) → lv 4 = some (jI x4) → ey (mm_xt L xs) 72 403 908 lv [] h r := by
  intro lv f0 f1 f2 f3 f4
  unfold jd_403_b908 at e
  refine ey_aload_n (cd_403 rfl) f1 ?_
  refine ey_aload_n (cd_403 rfl) f0 ?_
  refine ey_iload (cd_403 rfl) f4 ?_
  refine ey_iconst (cd_403 rfl) ?_
  refine ey_iadd (cd_403 rfl) ?_
  obtain ⟨v301, e302, e⟩ := jbind e
  refine ey_iasc (cd_403 rfl) e302 ?_
  refine ey_aload_n (cd_403 rfl) f3 ?_
  obtain ⟨q303, e304, e⟩ := jbind e
  refine ey_cs (s0 := [jR x3, jI v301, jR x1]) (s1 := []) (st' := [jI q303.1]) (cd_403 rfl) mt_403 mt_372 rfl (by decide) rfl rfl (jsml_s rfl) rfl (mm_Runs.up (d := 2) (by decide) (ok_372 e304)) ?_
  refine ey_istore (cd_403 rfl) mt_403 rfl ?_
  refine ey_aload_n (cd_403 rfl) f2 ?_
  refine ey_aload_n (cd_403 rfl) f0 ?_
  refine ey_iload (cd_403 rfl) (jup_pi (lv := lv) (j := 4) (v := jI q303.1) (z := x4) f4) ?_
  refine ey_iconst (cd_403 rfl) ?_
  refine ey_iadd (cd_403 rfl) ?_
  obtain ⟨v305, e306, e⟩ := jbind e
  refine ey_iasc (cd_403 rfl) e306 ?_
  obtain ⟨a307, e308, e⟩ := jbind e
  refine ey_rs (s0 := [jI v305, jR x2]) (s1 := [jI v305, jR (some a307)]) (by rw [e308]) ?_
  obtain ⟨u309, e310, e⟩ := jbind e
  have w311 := jlk_s e310
  refine ey_rs (s0 := [jI v305, jR (some a307)]) (s1 := [jI v305, jR (some 76)]) (by rw [w311.1]) ?_
  obtain ⟨q312, e313, e⟩ := jbind e
  refine ey_cv (s0 := [jI v305, jR (some 76)]) (s1 := []) (st' := [jI q312.1]) (cd_403 rfl) mt_403 mt_222 rfl rfl rfl (by have w := jhm_is (m := jmf q303.2) w311.2.1; rw [w311.2.2.2] at w; exact w) rfl (jsml_s rfl) rfl (mm_Runs.up (d := 1) (by decide) (by have w := ok_222 (L := L) (xs := xs) (b := q303.2) (m := jmf q303.2) w311.2.1 w311.2.2.1 e313; rw [w311.2.2.2] at w; exact w)) ?_
  obtain ⟨h314, e315, e⟩ := jbind e
  obtain rfl : (jhm q303.2 q312.2) = h314 := Option.some.inj e315
  refine ey_istore (cd_403 rfl) mt_403 rfl ?_
  refine ey_aload_n (cd_403 rfl) f2 ?_
  obtain ⟨a316, e317, e⟩ := jbind e
  refine ey_rs (s0 := [jR x2]) (s1 := [jR (some a316)]) (by rw [e317]) ?_
  obtain ⟨u318, e319, e⟩ := jbind e
  have w320 := jlk_s e319
  refine ey_rs (s0 := [jR (some a316)]) (s1 := [jR (some 76)]) (by rw [w320.1]) ?_
  refine ey_cv (s0 := [jR (some 76)]) (s1 := []) (st' := [jI (jd_203 (jmf h314))]) (cd_403 rfl) mt_403 mt_203 rfl rfl rfl (by have w := jhm_is (m := jmf h314) w320.2.1; rw [w320.2.2.2] at w; exact w) rfl (jsml_s rfl) rfl (mm_Runs.up (d := 1) (by decide) (by have w := ok_203 (L := L) (xs := xs) (b := h314) (m := jmf h314) w320.2.1 w320.2.2.1 ; rw [w320.2.2.2] at w; exact w)) ?_
  refine ey_iload (cd_403 rfl) (jup_pi (lv := (jup lv 5 (jI q303.1))) (j := 5) (v := jI q312.1) (z := q303.1) rfl) ?_
  by_cases q321 : (jw (jd_203 (jmf h314))) = (jw q303.1)
  · rw [if_pos q321] at e
    refine ey_ceq (cd_403 rfl) rfl rfl rfl q321 ?_
    refine ey_iload (cd_403 rfl) (jup_pi (lv := (jup lv 5 (jI q303.1))) (j := 5) (v := jI q312.1) (z := q303.1) rfl) ?_
    by_cases q322 : (jw q303.1) = 0
    · rw [if_pos q322] at e
      refine ey_yne (cd_403 rfl) rfl rfl (fun w => w q322) ?_
      refine ey_aload_n (cd_403 rfl) f3 ?_
      refine ey_iconst (cd_403 rfl) ?_
      obtain ⟨a323, e324, e⟩ := jbind e
      refine ey_rs (s0 := [jI 0, jR x3]) (s1 := [jI 0, jR (some a323)]) (by rw [e324]) ?_
      obtain ⟨v325, e326, e⟩ := jbind e
      refine ey_lald (cd_403 rfl) e326 ?_
      refine ey_iload (cd_403 rfl) rfl ?_
      refine ey_i2l (cd_403 rfl) ?_
      refine ey_lcmp (cd_403 rfl) ?_
      by_cases q327 : (jwl v325) = (jw q312.1)
      · rw [if_pos q327] at e
        refine ey_zeq (cd_403 rfl) rfl rfl ((jlc_eq rfl (jwl_jw _)).mpr q327) ?_
        exact jk_403_b961 e K (jup (jup lv 5 (jI q303.1)) 6 (jI q312.1)) f0 f1 f2 f3 (jup_o rfl (jup_pi (lv := lv) (j := 4) (v := jI q303.1) (z := x4) f4))
      · rw [if_neg q327] at e
        refine ey_yeq (cd_403 rfl) rfl rfl (fun w => q327 ((jlc_eq rfl (jwl_jw _)).mp w)) ?_
        cases e
    · rw [if_neg q322] at e
      refine ey_zne (cd_403 rfl) rfl rfl q322 ?_
      exact jk_403_b961 e K (jup (jup lv 5 (jI q303.1)) 6 (jI q312.1)) f0 f1 f2 f3 (jup_o rfl (jup_pi (lv := lv) (j := 4) (v := jI q303.1) (z := x4) f4))
  · rw [if_neg q321] at e
    refine ey_neq (cd_403 rfl) rfl rfl rfl q321 ?_
    cases e
def jd_403_b1061 (L : Nat) (xs : Nat → Int32) (x1 : Option Nat) (x2 : Option Nat) (x3 : Option Nat) (x4 : Int) (h : jH) : Option ((Int × jH) ⊕ jH) :=
  jd_403_b3169 L xs x1 x2 x3 x4 h
set_option maxRecDepth 100000 in
theorem jk_403_b1061 {L : Nat} {xs : Nat → Int32} {x1 : Option Nat} {x2 : Option Nat} {x3 : Option Nat} {x4 : Int} {h : jH} {o : ((Int × jH) ⊕ jH)} {r : mm_R} (e : jd_403_b1061 L xs x1 x2 x3 x4 h = some o) (K : jsm (fun s => (∀ lv : jL, lv 0 = some (jR (some 1000000)) → lv 1 = some (jR x1) → lv 2 = some (jR x2) → lv 3 = some (jR x3) → lv 4 = some (jI s.1) → ey (mm_xt L xs) 72 403 23 lv [] s.2 r)) (fun x => (∀ lv : jL, ey (mm_xt L xs) 72 403 3175 lv [] x r)) o) : ∀ lv : jL, lv 0 = some (jR (some 1000000)) → lv 1 = some (jR x1) → lv 2 = some (jR x2) → lv 3 = some (jR x3) → lv 4 = some (jI x4) → ey (mm_xt L xs) 72 403 1061 lv [] h r := by
  intro lv f0 f1 f2 f3 f4
  unfold jd_403_b1061 at e
  refine ey_goto (cd_403 rfl) rfl ?_
  exact jk_403_b3169 e K lv f0 f1 f2 f3 f4
def jd_403_b964 (L : Nat) (xs : Nat → Int32) (x1 : Option Nat) (x2 : Option Nat) (x3 : Option Nat) (x4 : Int) (h : jH) : Option ((Int × jH) ⊕ jH) :=
  ((jsc L xs (x4 + 1)).bind fun v329 => ((jsc L xs (x4 + 2)).bind fun v331 => ((jsc L xs (x4 + 3)).bind fun v333 => ((jd_373 x1 (jlor (jlshl (jw v329) 32) (jland (jw v331) 4294967295)) v333 x3 h).bind fun q335 => ((jsc L xs (x4 + 1)).bind fun v337 => ((jsc L xs (x4 + 2)).bind fun v339 => ((jsc L xs (x4 + 3)).bind fun v341 => ((x2).bind fun a343 => ((jlk q335.2 a343).bind fun u345 => ((jd_223 (jlor (jlshl (jw v337) 32) (jland (jw v339) 4294967295)) v341 (jmf q335.2)).bind fun q348 => ((some (jhm q335.2 q348.2)).bind fun h350 => ((x2).bind fun a352 => ((jlk h350 a352).bind fun u354 => (if (jw (jd_203 (jmf h350))) = (jw q335.1) then (if (jw q335.1) = 0 then ((x3).bind fun a359 => ((jal h350 a359 0).bind fun v361 => (if (jwl v361) = (jw q348.1) then jd_403_b1061 L xs x1 x2 x3 x4 h350 else none))) else jd_403_b1061 L xs x1 x2 x3 x4 h350) else none))))))))))))))
set_option maxRecDepth 100000 in
theorem jk_403_b964 {L : Nat} {xs : Nat → Int32} {x1 : Option Nat} {x2 : Option Nat} {x3 : Option Nat} {x4 : Int} {h : jH} {o : ((Int × jH) ⊕ jH)} {r : mm_R} (e : jd_403_b964 L xs x1 x2 x3 x4 h = some o) (K : jsm (fun s => (∀ lv : jL, lv 0 = some (jR (some 1000000)) → lv 1 = some (jR x1) → lv 2 = some (jR x2) → lv 3 = some (jR x3) → lv 4 = some (jI s.1) → ey (mm_xt L xs) 72 403 23 lv [] s.2 r)) (fun x => (∀ lv : jL, ey (mm_xt L xs) 72 403 3175 lv [] x r)) o) : ∀ lv : jL, lv 0 = some (jR (some 1000000)) → lv 1 = some (jR x1) → lv 2 = some (jR x2) → lv 3 = some (jR x3) → lv 4 = some (jI x4) → ey (mm_xt L xs) 72 403 964 lv [] h r := by
  intro lv f0 f1 f2 f3 f4
  unfold jd_403_b964 at e
  refine ey_aload_n (cd_403 rfl) f1 ?_
  refine ey_aload_n (cd_403 rfl) f0 ?_
  refine ey_iload (cd_403 rfl) f4 ?_
  refine ey_iconst (cd_403 rfl) ?_
  refine ey_iadd (cd_403 rfl) ?_
  obtain ⟨v329, e330, e⟩ := jbind e
  refine ey_iasc (cd_403 rfl) e330 ?_
  refine ey_i2l (cd_403 rfl) ?_
  refine ey_bipush (cd_403 rfl) (by decide) ?_
  refine ey_lshl (cd_403 rfl) ?_
  refine ey_aload_n (cd_403 rfl) f0 ?_
  refine ey_iload (cd_403 rfl) f4 ?_
  refine ey_iconst (cd_403 rfl) ?_
  refine ey_iadd (cd_403 rfl) ?_
  obtain ⟨v331, e332, e⟩ := jbind e
  refine ey_iasc (cd_403 rfl) e332 ?_
  refine ey_i2l (cd_403 rfl) ?_
  refine ey_ldc2 (z := 4294967295) (cd_403 rfl) mt_403 rfl (by decide) ?_
  refine ey_land (cd_403 rfl) ?_
  refine ey_lor (cd_403 rfl) ?_
  refine ey_aload_n (cd_403 rfl) f0 ?_
  refine ey_iload (cd_403 rfl) f4 ?_
  refine ey_iconst (cd_403 rfl) ?_
  refine ey_iadd (cd_403 rfl) ?_
  obtain ⟨v333, e334, e⟩ := jbind e
  refine ey_iasc (cd_403 rfl) e334 ?_
  refine ey_aload_n (cd_403 rfl) f3 ?_
  obtain ⟨q335, e336, e⟩ := jbind e
  refine ey_cs (s0 := [jR x3, jI v333, jJ (jlor (jlshl (jw v329) 32) (jland (jw v331) 4294967295)), jR x1]) (s1 := []) (st' := [jI q335.1]) (cd_403 rfl) mt_403 mt_373 rfl (by decide) rfl rfl (jsml_s rfl) rfl (mm_Runs.up (d := 2) (by decide) (ok_373 e336)) ?_
  refine ey_istore (cd_403 rfl) mt_403 rfl ?_
  refine ey_aload_n (cd_403 rfl) f2 ?_
  refine ey_aload_n (cd_403 rfl) f0 ?_
  refine ey_iload (cd_403 rfl) (jup_pi (lv := lv) (j := 4) (v := jI q335.1) (z := x4) f4) ?_
  refine ey_iconst (cd_403 rfl) ?_
  refine ey_iadd (cd_403 rfl) ?_
  obtain ⟨v337, e338, e⟩ := jbind e
  refine ey_iasc (cd_403 rfl) e338 ?_
  refine ey_i2l (cd_403 rfl) ?_
  refine ey_bipush (cd_403 rfl) (by decide) ?_
  refine ey_lshl (cd_403 rfl) ?_
  refine ey_aload_n (cd_403 rfl) f0 ?_
  refine ey_iload (cd_403 rfl) (jup_pi (lv := lv) (j := 4) (v := jI q335.1) (z := x4) f4) ?_
  refine ey_iconst (cd_403 rfl) ?_
  refine ey_iadd (cd_403 rfl) ?_
  obtain ⟨v339, e340, e⟩ := jbind e
  refine ey_iasc (cd_403 rfl) e340 ?_
  refine ey_i2l (cd_403 rfl) ?_
  refine ey_ldc2 (z := 4294967295) (cd_403 rfl) mt_403 rfl (by decide) ?_
  refine ey_land (cd_403 rfl) ?_
  refine ey_lor (cd_403 rfl) ?_
  refine ey_aload_n (cd_403 rfl) f0 ?_
  refine ey_iload (cd_403 rfl) (jup_pi (lv := lv) (j := 4) (v := jI q335.1) (z := x4) f4) ?_
  refine ey_iconst (cd_403 rfl) ?_
  refine ey_iadd (cd_403 rfl) ?_
  obtain ⟨v341, e342, e⟩ := jbind e
  refine ey_iasc (cd_403 rfl) e342 ?_
  obtain ⟨a343, e344, e⟩ := jbind e
  refine ey_rs (s0 := [jI v341, jJ (jlor (jlshl (jw v337) 32) (jland (jw v339) 4294967295)), jR x2]) (s1 := [jI v341, jJ (jlor (jlshl (jw v337) 32) (jland (jw v339) 4294967295)), jR (some a343)]) (by rw [e344]) ?_
  obtain ⟨u345, e346, e⟩ := jbind e
  have w347 := jlk_s e346
  refine ey_rs (s0 := [jI v341, jJ (jlor (jlshl (jw v337) 32) (jland (jw v339) 4294967295)), jR (some a343)]) (s1 := [jI v341, jJ (jlor (jlshl (jw v337) 32) (jland (jw v339) 4294967295)), jR (some 76)]) (by rw [w347.1]) ?_
  obtain ⟨q348, e349, e⟩ := jbind e
  refine ey_cv (s0 := [jI v341, jJ (jlor (jlshl (jw v337) 32) (jland (jw v339) 4294967295)), jR (some 76)]) (s1 := []) (st' := [jI q348.1]) (cd_403 rfl) mt_403 mt_223 rfl rfl rfl (by have w := jhm_is (m := jmf q335.2) w347.2.1; rw [w347.2.2.2] at w; exact w) rfl (jsml_s rfl) rfl (mm_Runs.up (d := 2) (by decide) (by have w := ok_223 (L := L) (xs := xs) (b := q335.2) (m := jmf q335.2) w347.2.1 w347.2.2.1 e349; rw [w347.2.2.2] at w; exact w)) ?_
  obtain ⟨h350, e351, e⟩ := jbind e
  obtain rfl : (jhm q335.2 q348.2) = h350 := Option.some.inj e351
  refine ey_istore (cd_403 rfl) mt_403 rfl ?_
  refine ey_aload_n (cd_403 rfl) f2 ?_
  obtain ⟨a352, e353, e⟩ := jbind e
  refine ey_rs (s0 := [jR x2]) (s1 := [jR (some a352)]) (by rw [e353]) ?_
  obtain ⟨u354, e355, e⟩ := jbind e
  have w356 := jlk_s e355
  refine ey_rs (s0 := [jR (some a352)]) (s1 := [jR (some 76)]) (by rw [w356.1]) ?_
  refine ey_cv (s0 := [jR (some 76)]) (s1 := []) (st' := [jI (jd_203 (jmf h350))]) (cd_403 rfl) mt_403 mt_203 rfl rfl rfl (by have w := jhm_is (m := jmf h350) w356.2.1; rw [w356.2.2.2] at w; exact w) rfl (jsml_s rfl) rfl (mm_Runs.up (d := 1) (by decide) (by have w := ok_203 (L := L) (xs := xs) (b := h350) (m := jmf h350) w356.2.1 w356.2.2.1 ; rw [w356.2.2.2] at w; exact w)) ?_
  refine ey_iload (cd_403 rfl) (jup_pi (lv := (jup lv 5 (jI q335.1))) (j := 5) (v := jI q348.1) (z := q335.1) rfl) ?_
  by_cases q357 : (jw (jd_203 (jmf h350))) = (jw q335.1)
  · rw [if_pos q357] at e
    refine ey_ceq (cd_403 rfl) rfl rfl rfl q357 ?_
    refine ey_iload (cd_403 rfl) (jup_pi (lv := (jup lv 5 (jI q335.1))) (j := 5) (v := jI q348.1) (z := q335.1) rfl) ?_
    by_cases q358 : (jw q335.1) = 0
    · rw [if_pos q358] at e
      refine ey_yne (cd_403 rfl) rfl rfl (fun w => w q358) ?_
      refine ey_aload_n (cd_403 rfl) f3 ?_
      refine ey_iconst (cd_403 rfl) ?_
      obtain ⟨a359, e360, e⟩ := jbind e
      refine ey_rs (s0 := [jI 0, jR x3]) (s1 := [jI 0, jR (some a359)]) (by rw [e360]) ?_
      obtain ⟨v361, e362, e⟩ := jbind e
      refine ey_lald (cd_403 rfl) e362 ?_
      refine ey_iload (cd_403 rfl) rfl ?_
      refine ey_i2l (cd_403 rfl) ?_
      refine ey_lcmp (cd_403 rfl) ?_
      by_cases q363 : (jwl v361) = (jw q348.1)
      · rw [if_pos q363] at e
        refine ey_zeq (cd_403 rfl) rfl rfl ((jlc_eq rfl (jwl_jw _)).mpr q363) ?_
        exact jk_403_b1061 e K (jup (jup lv 5 (jI q335.1)) 6 (jI q348.1)) f0 f1 f2 f3 (jup_o rfl (jup_pi (lv := lv) (j := 4) (v := jI q335.1) (z := x4) f4))
      · rw [if_neg q363] at e
        refine ey_yeq (cd_403 rfl) rfl rfl (fun w => q363 ((jlc_eq rfl (jwl_jw _)).mp w)) ?_
        cases e
    · rw [if_neg q358] at e
      refine ey_zne (cd_403 rfl) rfl rfl q358 ?_
      exact jk_403_b1061 e K (jup (jup lv 5 (jI q335.1)) 6 (jI q348.1)) f0 f1 f2 f3 (jup_o rfl (jup_pi (lv := lv) (j := 4) (v := jI q335.1) (z := x4) f4))
  · rw [if_neg q357] at e
    refine ey_neq (cd_403 rfl) rfl rfl rfl q357 ?_
    cases e
def jd_403_b1129 (L : Nat) (xs : Nat → Int32) (x1 : Option Nat) (x2 : Option Nat) (x3 : Option Nat) (x4 : Int) (h : jH) : Option ((Int × jH) ⊕ jH) :=
  jd_403_b3169 L xs x1 x2 x3 x4 h
set_option maxRecDepth 100000 in
theorem jk_403_b1129 {L : Nat} {xs : Nat → Int32} {x1 : Option Nat} {x2 : Option Nat} {x3 : Option Nat} {x4 : Int} {h : jH} {o : ((Int × jH) ⊕ jH)} {r : mm_R} (e : jd_403_b1129 L xs x1 x2 x3 x4 h = some o) (K : jsm (fun s => (∀ lv : jL, lv 0 = some (jR (some 1000000)) → lv 1 = some (jR x1) → lv 2 = some (jR x2) → lv 3 = some (jR x3) → lv 4 = some (jI s.1) → ey (mm_xt L xs) 72 403 23 lv [] s.2 r)) (fun x => (∀ lv : jL, ey (mm_xt L xs) 72 403 3175 lv [] x r)) o) : ∀ lv : jL, lv 0 = some (jR (some 1000000)) → lv 1 = some (jR x1) → lv 2 = some (jR x2) → lv 3 = some (jR x3) → lv 4 = some (jI x4) → ey (mm_xt L xs) 72 403 1129 lv [] h r := by
  intro lv f0 f1 f2 f3 f4
  unfold jd_403_b1129 at e
  refine ey_goto (cd_403 rfl) rfl ?_
  exact jk_403_b3169 e K lv f0 f1 f2 f3 f4
def jd_403_b1064 (L : Nat) (xs : Nat → Int32) (x1 : Option Nat) (x2 : Option Nat) (x3 : Option Nat) (x4 : Int) (h : jH) : Option ((Int × jH) ⊕ jH) :=
  ((jsc L xs (x4 + 1)).bind fun v365 => ((jsc L xs (x4 + 2)).bind fun v367 => ((jd_374 x1 v365 v367 x3 h).bind fun q369 => ((jsc L xs (x4 + 1)).bind fun v371 => ((jsc L xs (x4 + 2)).bind fun v373 => ((x2).bind fun a375 => ((jlk q369.2 a375).bind fun u377 => ((jd_224 v371 v373 (jmf q369.2)).bind fun q380 => ((some (jhm q369.2 q380.2)).bind fun h382 => ((x2).bind fun a384 => ((jlk h382 a384).bind fun u386 => (if (jw (jd_203 (jmf h382))) = (jw q369.1) then (if (jw q369.1) = 0 then ((x3).bind fun a391 => ((jal h382 a391 0).bind fun v393 => (if (jwl v393) = (jw q380.1) then jd_403_b1129 L xs x1 x2 x3 x4 h382 else none))) else jd_403_b1129 L xs x1 x2 x3 x4 h382) else none))))))))))))
set_option maxRecDepth 100000 in
theorem jk_403_b1064 {L : Nat} {xs : Nat → Int32} {x1 : Option Nat} {x2 : Option Nat} {x3 : Option Nat} {x4 : Int} {h : jH} {o : ((Int × jH) ⊕ jH)} {r : mm_R} (e : jd_403_b1064 L xs x1 x2 x3 x4 h = some o) (K : jsm (fun s => (∀ lv : jL, lv 0 = some (jR (some 1000000)) → lv 1 = some (jR x1) → lv 2 = some (jR x2) → lv 3 = some (jR x3) → lv 4 = some (jI s.1) → ey (mm_xt L xs) 72 403 23 lv [] s.2 r)) (fun x => (∀ lv : jL, ey (mm_xt L xs) 72 403 3175 lv [] x r)) o) : ∀ lv : jL, lv 0 = some (jR (some 1000000)) → lv 1 = some (jR x1) → lv 2 = some (jR x2) → lv 3 = some (jR x3) → lv 4 = some (jI x4) → ey (mm_xt L xs) 72 403 1064 lv [] h r := by
  intro lv f0 f1 f2 f3 f4
  unfold jd_403_b1064 at e
  refine ey_aload_n (cd_403 rfl) f1 ?_
  refine ey_aload_n (cd_403 rfl) f0 ?_
  refine ey_iload (cd_403 rfl) f4 ?_
  refine ey_iconst (cd_403 rfl) ?_
  refine ey_iadd (cd_403 rfl) ?_
  obtain ⟨v365, e366, e⟩ := jbind e
  refine ey_iasc (cd_403 rfl) e366 ?_
  refine ey_aload_n (cd_403 rfl) f0 ?_
  refine ey_iload (cd_403 rfl) f4 ?_
  refine ey_iconst (cd_403 rfl) ?_
  refine ey_iadd (cd_403 rfl) ?_
  obtain ⟨v367, e368, e⟩ := jbind e
  refine ey_iasc (cd_403 rfl) e368 ?_
  refine ey_aload_n (cd_403 rfl) f3 ?_
  obtain ⟨q369, e370, e⟩ := jbind e
  refine ey_cs (s0 := [jR x3, jI v367, jI v365, jR x1]) (s1 := []) (st' := [jI q369.1]) (cd_403 rfl) mt_403 mt_374 rfl (by decide) rfl rfl (jsml_s rfl) rfl (mm_Runs.up (d := 2) (by decide) (ok_374 e370)) ?_
  refine ey_istore (cd_403 rfl) mt_403 rfl ?_
  refine ey_aload_n (cd_403 rfl) f2 ?_
  refine ey_aload_n (cd_403 rfl) f0 ?_
  refine ey_iload (cd_403 rfl) (jup_pi (lv := lv) (j := 4) (v := jI q369.1) (z := x4) f4) ?_
  refine ey_iconst (cd_403 rfl) ?_
  refine ey_iadd (cd_403 rfl) ?_
  obtain ⟨v371, e372, e⟩ := jbind e
  refine ey_iasc (cd_403 rfl) e372 ?_
  refine ey_aload_n (cd_403 rfl) f0 ?_
  refine ey_iload (cd_403 rfl) (jup_pi (lv := lv) (j := 4) (v := jI q369.1) (z := x4) f4) ?_
  refine ey_iconst (cd_403 rfl) ?_
  refine ey_iadd (cd_403 rfl) ?_
  obtain ⟨v373, e374, e⟩ := jbind e
  refine ey_iasc (cd_403 rfl) e374 ?_
  obtain ⟨a375, e376, e⟩ := jbind e
  refine ey_rs (s0 := [jI v373, jI v371, jR x2]) (s1 := [jI v373, jI v371, jR (some a375)]) (by rw [e376]) ?_
  obtain ⟨u377, e378, e⟩ := jbind e
  have w379 := jlk_s e378
  refine ey_rs (s0 := [jI v373, jI v371, jR (some a375)]) (s1 := [jI v373, jI v371, jR (some 76)]) (by rw [w379.1]) ?_
  obtain ⟨q380, e381, e⟩ := jbind e
  refine ey_cv (s0 := [jI v373, jI v371, jR (some 76)]) (s1 := []) (st' := [jI q380.1]) (cd_403 rfl) mt_403 mt_224 rfl rfl rfl (by have w := jhm_is (m := jmf q369.2) w379.2.1; rw [w379.2.2.2] at w; exact w) rfl (jsml_s rfl) rfl (mm_Runs.up (d := 2) (by decide) (by have w := ok_224 (L := L) (xs := xs) (b := q369.2) (m := jmf q369.2) w379.2.1 w379.2.2.1 e381; rw [w379.2.2.2] at w; exact w)) ?_
  obtain ⟨h382, e383, e⟩ := jbind e
  obtain rfl : (jhm q369.2 q380.2) = h382 := Option.some.inj e383
  refine ey_istore (cd_403 rfl) mt_403 rfl ?_
  refine ey_aload_n (cd_403 rfl) f2 ?_
  obtain ⟨a384, e385, e⟩ := jbind e
  refine ey_rs (s0 := [jR x2]) (s1 := [jR (some a384)]) (by rw [e385]) ?_
  obtain ⟨u386, e387, e⟩ := jbind e
  have w388 := jlk_s e387
  refine ey_rs (s0 := [jR (some a384)]) (s1 := [jR (some 76)]) (by rw [w388.1]) ?_
  refine ey_cv (s0 := [jR (some 76)]) (s1 := []) (st' := [jI (jd_203 (jmf h382))]) (cd_403 rfl) mt_403 mt_203 rfl rfl rfl (by have w := jhm_is (m := jmf h382) w388.2.1; rw [w388.2.2.2] at w; exact w) rfl (jsml_s rfl) rfl (mm_Runs.up (d := 1) (by decide) (by have w := ok_203 (L := L) (xs := xs) (b := h382) (m := jmf h382) w388.2.1 w388.2.2.1 ; rw [w388.2.2.2] at w; exact w)) ?_
  refine ey_iload (cd_403 rfl) (jup_pi (lv := (jup lv 5 (jI q369.1))) (j := 5) (v := jI q380.1) (z := q369.1) rfl) ?_
  by_cases q389 : (jw (jd_203 (jmf h382))) = (jw q369.1)
  · rw [if_pos q389] at e
    refine ey_ceq (cd_403 rfl) rfl rfl rfl q389 ?_
    refine ey_iload (cd_403 rfl) (jup_pi (lv := (jup lv 5 (jI q369.1))) (j := 5) (v := jI q380.1) (z := q369.1) rfl) ?_
    by_cases q390 : (jw q369.1) = 0
    · rw [if_pos q390] at e
      refine ey_yne (cd_403 rfl) rfl rfl (fun w => w q390) ?_
      refine ey_aload_n (cd_403 rfl) f3 ?_
      refine ey_iconst (cd_403 rfl) ?_
      obtain ⟨a391, e392, e⟩ := jbind e
      refine ey_rs (s0 := [jI 0, jR x3]) (s1 := [jI 0, jR (some a391)]) (by rw [e392]) ?_
      obtain ⟨v393, e394, e⟩ := jbind e
      refine ey_lald (cd_403 rfl) e394 ?_
      refine ey_iload (cd_403 rfl) rfl ?_
      refine ey_i2l (cd_403 rfl) ?_
      refine ey_lcmp (cd_403 rfl) ?_
      by_cases q395 : (jwl v393) = (jw q380.1)
      · rw [if_pos q395] at e
        refine ey_zeq (cd_403 rfl) rfl rfl ((jlc_eq rfl (jwl_jw _)).mpr q395) ?_
        exact jk_403_b1129 e K (jup (jup lv 5 (jI q369.1)) 6 (jI q380.1)) f0 f1 f2 f3 (jup_o rfl (jup_pi (lv := lv) (j := 4) (v := jI q369.1) (z := x4) f4))
      · rw [if_neg q395] at e
        refine ey_yeq (cd_403 rfl) rfl rfl (fun w => q395 ((jlc_eq rfl (jwl_jw _)).mp w)) ?_
        cases e
    · rw [if_neg q390] at e
      refine ey_zne (cd_403 rfl) rfl rfl q390 ?_
      exact jk_403_b1129 e K (jup (jup lv 5 (jI q369.1)) 6 (jI q380.1)) f0 f1 f2 f3 (jup_o rfl (jup_pi (lv := lv) (j := 4) (v := jI q369.1) (z := x4) f4))
  · rw [if_neg q389] at e
    refine ey_neq (cd_403 rfl) rfl rfl rfl q389 ?_
    cases e
def jd_403_b1132 (L : Nat) (xs : Nat → Int32) (x1 : Option Nat) (x2 : Option Nat) (x3 : Option Nat) (x4 : Int) (h : jH) : Option ((Int × jH) ⊕ jH) :=
  ((jsc L xs (x4 + 1)).bind fun v397 => ((x1).bind fun a399 => ((jck h a399 11).bind fun u401 => ((jd_150 a399 v397 h).bind fun v403 => ((jsc L xs (x4 + 1)).bind fun v405 => ((x2).bind fun a407 => ((jlk h a407).bind fun u409 => ((jd_225 v405 (jmf h)).bind fun q412 => ((some (jhm h q412.2)).bind fun h414 => (if (jw v403) = (jw q412.1) then jd_403_b3169 L xs x1 x2 x3 x4 h414 else none))))))))))
set_option maxRecDepth 100000 in
theorem jk_403_b1132 {L : Nat} {xs : Nat → Int32} {x1 : Option Nat} {x2 : Option Nat} {x3 : Option Nat} {x4 : Int} {h : jH} {o : ((Int × jH) ⊕ jH)} {r : mm_R} (e : jd_403_b1132 L xs x1 x2 x3 x4 h = some o) (K : jsm (fun s => (∀ lv : jL, lv 0 = some (jR (some 1000000)) → lv 1 = some (jR x1) → lv 2 = some (jR x2) → lv 3 = some (jR x3) → lv 4 = some (jI s.1) → ey (mm_xt L xs) 72 403 23 lv [] s.2 r)) (fun x => (∀ lv : jL, ey (mm_xt L xs) 72 403 3175 lv [] x r)) o) : ∀ lv : jL, lv 0 = some (jR (some 1000000)) → lv 1 = some (jR x1) → lv 2 = some (jR x2) → lv 3 = some (jR x3) → lv 4 = some (jI x4) → ey (mm_xt L xs) 72 403 1132 lv [] h r := by
  intro lv f0 f1 f2 f3 f4
  unfold jd_403_b1132 at e
  refine ey_aload_n (cd_403 rfl) f1 ?_
  refine ey_aload_n (cd_403 rfl) f0 ?_
  refine ey_iload (cd_403 rfl) f4 ?_
  refine ey_iconst (cd_403 rfl) ?_
  refine ey_iadd (cd_403 rfl) ?_
  obtain ⟨v397, e398, e⟩ := jbind e
  refine ey_iasc (cd_403 rfl) e398 ?_
  obtain ⟨a399, e400, e⟩ := jbind e
  refine ey_rs (s0 := [jI v397, jR x1]) (s1 := [jI v397, jR (some a399)]) (by rw [e400]) ?_
  obtain ⟨u401, e402, e⟩ := jbind e
  obtain ⟨v403, e404, e⟩ := jbind e
  refine ey_cv (s0 := [jI v397, jR (some a399)]) (s1 := []) (st' := [jI v403]) (cd_403 rfl) mt_403 mt_150 rfl rfl rfl (jck_s e402) rfl (jsml_s rfl) rfl (mm_Runs.up (d := 1) (by decide) (ok_150 e404)) ?_
  refine ey_aload_n (cd_403 rfl) f2 ?_
  refine ey_aload_n (cd_403 rfl) f0 ?_
  refine ey_iload (cd_403 rfl) f4 ?_
  refine ey_iconst (cd_403 rfl) ?_
  refine ey_iadd (cd_403 rfl) ?_
  obtain ⟨v405, e406, e⟩ := jbind e
  refine ey_iasc (cd_403 rfl) e406 ?_
  obtain ⟨a407, e408, e⟩ := jbind e
  refine ey_rs (s0 := [jI v405, jR x2, jI v403]) (s1 := [jI v405, jR (some a407), jI v403]) (by rw [e408]) ?_
  obtain ⟨u409, e410, e⟩ := jbind e
  have w411 := jlk_s e410
  refine ey_rs (s0 := [jI v405, jR (some a407), jI v403]) (s1 := [jI v405, jR (some 76), jI v403]) (by rw [w411.1]) ?_
  obtain ⟨q412, e413, e⟩ := jbind e
  refine ey_cv (s0 := [jI v405, jR (some 76), jI v403]) (s1 := [jI v403]) (st' := [jI q412.1, jI v403]) (cd_403 rfl) mt_403 mt_225 rfl rfl rfl (by have w := jhm_is (m := jmf h) w411.2.1; rw [w411.2.2.2] at w; exact w) rfl (jsml_s rfl) rfl (mm_Runs.up (d := 2) (by decide) (by have w := ok_225 (L := L) (xs := xs) (b := h) (m := jmf h) w411.2.1 w411.2.2.1 e413; rw [w411.2.2.2] at w; exact w)) ?_
  obtain ⟨h414, e415, e⟩ := jbind e
  obtain rfl : (jhm h q412.2) = h414 := Option.some.inj e415
  by_cases q416 : (jw v403) = (jw q412.1)
  · rw [if_pos q416] at e
    refine ey_ceq (cd_403 rfl) rfl rfl rfl q416 ?_
    exact jk_403_b3169 e K lv f0 f1 f2 f3 f4
  · rw [if_neg q416] at e
    refine ey_neq (cd_403 rfl) rfl rfl rfl q416 ?_
    cases e
def jd_403_b1157 (L : Nat) (xs : Nat → Int32) (x1 : Option Nat) (x2 : Option Nat) (x3 : Option Nat) (x4 : Int) (h : jH) : Option ((Int × jH) ⊕ jH) :=
  ((x1).bind fun a418 => ((jck h a418 11).bind fun u420 => ((jd_151 a418 h).bind fun q422 => ((x2).bind fun a424 => ((jlk q422.2 a424).bind fun u426 => ((jd_226 (jmf q422.2)).bind fun q429 => ((some (jhm q422.2 q429.2)).bind fun h431 => (if (jw q422.1) = (jw q429.1) then jd_403_b3169 L xs x1 x2 x3 x4 h431 else none))))))))
set_option maxRecDepth 100000 in
theorem jk_403_b1157 {L : Nat} {xs : Nat → Int32} {x1 : Option Nat} {x2 : Option Nat} {x3 : Option Nat} {x4 : Int} {h : jH} {o : ((Int × jH) ⊕ jH)} {r : mm_R} (e : jd_403_b1157 L xs x1 x2 x3 x4 h = some o) (K : jsm (fun s => (∀ lv : jL, lv 0 = some (jR (some 1000000)) → lv 1 = some (jR x1) → lv 2 = some (jR x2) → lv 3 = some (jR x3) → lv 4 = some (jI s.1) → ey (mm_xt L xs) 72 403 23 lv [] s.2 r)) (fun x => (∀ lv : jL, ey (mm_xt L xs) 72 403 3175 lv [] x r)) o) : ∀ lv : jL, lv 0 = some (jR (some 1000000)) → lv 1 = some (jR x1) → lv 2 = some (jR x2) → lv 3 = some (jR x3) → lv 4 = some (jI x4) → ey (mm_xt L xs) 72 403 1157 lv [] h r := by
  intro lv f0 f1 f2 f3 f4
  unfold jd_403_b1157 at e
  refine ey_aload_n (cd_403 rfl) f1 ?_
  obtain ⟨a418, e419, e⟩ := jbind e
  refine ey_rs (s0 := [jR x1]) (s1 := [jR (some a418)]) (by rw [e419]) ?_
  obtain ⟨u420, e421, e⟩ := jbind e
  obtain ⟨q422, e423, e⟩ := jbind e
  refine ey_cv (s0 := [jR (some a418)]) (s1 := []) (st' := [jI q422.1]) (cd_403 rfl) mt_403 mt_151 rfl rfl rfl (jck_s e421) rfl (jsml_s rfl) rfl (mm_Runs.up (d := 1) (by decide) (ok_151 e423)) ?_
  refine ey_aload_n (cd_403 rfl) f2 ?_
  obtain ⟨a424, e425, e⟩ := jbind e
  refine ey_rs (s0 := [jR x2, jI q422.1]) (s1 := [jR (some a424), jI q422.1]) (by rw [e425]) ?_
  obtain ⟨u426, e427, e⟩ := jbind e
  have w428 := jlk_s e427
  refine ey_rs (s0 := [jR (some a424), jI q422.1]) (s1 := [jR (some 76), jI q422.1]) (by rw [w428.1]) ?_
  obtain ⟨q429, e430, e⟩ := jbind e
  refine ey_cv (s0 := [jR (some 76), jI q422.1]) (s1 := [jI q422.1]) (st' := [jI q429.1, jI q422.1]) (cd_403 rfl) mt_403 mt_226 rfl rfl rfl (by have w := jhm_is (m := jmf q422.2) w428.2.1; rw [w428.2.2.2] at w; exact w) rfl (jsml_s rfl) rfl (mm_Runs.up (d := 1) (by decide) (by have w := ok_226 (L := L) (xs := xs) (b := q422.2) (m := jmf q422.2) w428.2.1 w428.2.2.1 e430; rw [w428.2.2.2] at w; exact w)) ?_
  obtain ⟨h431, e432, e⟩ := jbind e
  obtain rfl : (jhm q422.2 q429.2) = h431 := Option.some.inj e432
  by_cases q433 : (jw q422.1) = (jw q429.1)
  · rw [if_pos q433] at e
    refine ey_ceq (cd_403 rfl) rfl rfl rfl q433 ?_
    exact jk_403_b3169 e K lv f0 f1 f2 f3 f4
  · rw [if_neg q433] at e
    refine ey_neq (cd_403 rfl) rfl rfl rfl q433 ?_
    cases e
def jd_403_b1235 (L : Nat) (xs : Nat → Int32) (x1 : Option Nat) (x2 : Option Nat) (x3 : Option Nat) (x4 : Int) (h : jH) : Option ((Int × jH) ⊕ jH) :=
  jd_403_b3169 L xs x1 x2 x3 x4 h
set_option maxRecDepth 100000 in
theorem jk_403_b1235 {L : Nat} {xs : Nat → Int32} {x1 : Option Nat} {x2 : Option Nat} {x3 : Option Nat} {x4 : Int} {h : jH} {o : ((Int × jH) ⊕ jH)} {r : mm_R} (e : jd_403_b1235 L xs x1 x2 x3 x4 h = some o) (K : jsm (fun s => (∀ lv : jL, lv 0 = some (jR (some 1000000)) → lv 1 = some (jR x1) → lv 2 = some (jR x2) → lv 3 = some (jR x3) → lv 4 = some (jI s.1) → ey (mm_xt L xs) 72 403 23 lv [] s.2 r)) (fun x => (∀ lv : jL, ey (mm_xt L xs) 72 403 3175 lv [] x r)) o) : ∀ lv : jL, lv 0 = some (jR (some 1000000)) → lv 1 = some (jR x1) → lv 2 = some (jR x2) → lv 3 = some (jR x3) → lv 4 = some (jI x4) → ey (mm_xt L xs) 72 403 1235 lv [] h r := by
  intro lv f0 f1 f2 f3 f4
  unfold jd_403_b1235 at e
  refine ey_goto (cd_403 rfl) rfl ?_
  exact jk_403_b3169 e K lv f0 f1 f2 f3 f4
def jd_403_b1170 (L : Nat) (xs : Nat → Int32) (x1 : Option Nat) (x2 : Option Nat) (x3 : Option Nat) (x4 : Int) (h : jH) : Option ((Int × jH) ⊕ jH) :=
  ((jsc L xs (x4 + 1)).bind fun v435 => ((jsc L xs (x4 + 2)).bind fun v437 => ((jd_375 x1 v435 v437 x3 h).bind fun q439 => ((jsc L xs (x4 + 1)).bind fun v441 => ((jsc L xs (x4 + 2)).bind fun v443 => ((x2).bind fun a445 => ((jlk q439.2 a445).bind fun u447 => ((jd_296 v441 v443 (jmf q439.2)).bind fun q450 => ((some (jhm q439.2 q450.2)).bind fun h452 => ((x2).bind fun a454 => ((jlk h452 a454).bind fun u456 => (if (jw (jd_203 (jmf h452))) = (jw q439.1) then (if (jw q439.1) = 0 then ((x3).bind fun a461 => ((jal h452 a461 0).bind fun v463 => (if (jwl v463) = (jw q450.1) then jd_403_b1235 L xs x1 x2 x3 x4 h452 else none))) else jd_403_b1235 L xs x1 x2 x3 x4 h452) else none))))))))))))
set_option maxRecDepth 100000 in
theorem jk_403_b1170 {L : Nat} {xs : Nat → Int32} {x1 : Option Nat} {x2 : Option Nat} {x3 : Option Nat} {x4 : Int} {h : jH} {o : ((Int × jH) ⊕ jH)} {r : mm_R} (e : jd_403_b1170 L xs x1 x2 x3 x4 h = some o) (K : jsm (fun s => (∀ lv : jL, lv 0 = some (jR (some 1000000)) → lv 1 = some (jR x1) → lv 2 = some (jR x2) → lv 3 = some (jR x3) → lv 4 = some (jI s.1) → ey (mm_xt L xs) 72 403 23 lv [] s.2 r)) (fun x => (∀ lv : jL, ey (mm_xt L xs) 72 403 3175 lv [] x r)) o) : ∀ lv : jL, lv 0 = some (jR (some 1000000)) → lv 1 = some (jR x1) → lv 2 = some (jR x2) → lv 3 = some (jR x3) → lv 4 = some (jI x4) → ey (mm_xt L xs) 72 403 1170 lv [] h r := by
  intro lv f0 f1 f2 f3 f4
  unfold jd_403_b1170 at e
  refine ey_aload_n (cd_403 rfl) f1 ?_
  refine ey_aload_n (cd_403 rfl) f0 ?_
  refine ey_iload (cd_403 rfl) f4 ?_
  refine ey_iconst (cd_403 rfl) ?_
  refine ey_iadd (cd_403 rfl) ?_
  obtain ⟨v435, e436, e⟩ := jbind e
  refine ey_iasc (cd_403 rfl) e436 ?_
  refine ey_aload_n (cd_403 rfl) f0 ?_
  refine ey_iload (cd_403 rfl) f4 ?_
  refine ey_iconst (cd_403 rfl) ?_
  refine ey_iadd (cd_403 rfl) ?_
  obtain ⟨v437, e438, e⟩ := jbind e
  refine ey_iasc (cd_403 rfl) e438 ?_
  refine ey_aload_n (cd_403 rfl) f3 ?_
  obtain ⟨q439, e440, e⟩ := jbind e
  refine ey_cs (s0 := [jR x3, jI v437, jI v435, jR x1]) (s1 := []) (st' := [jI q439.1]) (cd_403 rfl) mt_403 mt_375 rfl (by decide) rfl rfl (jsml_s rfl) rfl (mm_Runs.up (d := 3) (by decide) (ok_375 e440)) ?_
  refine ey_istore (cd_403 rfl) mt_403 rfl ?_
  refine ey_aload_n (cd_403 rfl) f2 ?_
  refine ey_aload_n (cd_403 rfl) f0 ?_
  refine ey_iload (cd_403 rfl) (jup_pi (lv := lv) (j := 4) (v := jI q439.1) (z := x4) f4) ?_
  refine ey_iconst (cd_403 rfl) ?_
  refine ey_iadd (cd_403 rfl) ?_
  obtain ⟨v441, e442, e⟩ := jbind e
  refine ey_iasc (cd_403 rfl) e442 ?_
  refine ey_aload_n (cd_403 rfl) f0 ?_
  refine ey_iload (cd_403 rfl) (jup_pi (lv := lv) (j := 4) (v := jI q439.1) (z := x4) f4) ?_
  refine ey_iconst (cd_403 rfl) ?_
  refine ey_iadd (cd_403 rfl) ?_
  obtain ⟨v443, e444, e⟩ := jbind e
  refine ey_iasc (cd_403 rfl) e444 ?_
  obtain ⟨a445, e446, e⟩ := jbind e
  refine ey_rs (s0 := [jI v443, jI v441, jR x2]) (s1 := [jI v443, jI v441, jR (some a445)]) (by rw [e446]) ?_
  obtain ⟨u447, e448, e⟩ := jbind e
  have w449 := jlk_s e448
  refine ey_rs (s0 := [jI v443, jI v441, jR (some a445)]) (s1 := [jI v443, jI v441, jR (some 76)]) (by rw [w449.1]) ?_
  obtain ⟨q450, e451, e⟩ := jbind e
  refine ey_cv (s0 := [jI v443, jI v441, jR (some 76)]) (s1 := []) (st' := [jI q450.1]) (cd_403 rfl) mt_403 mt_296 rfl rfl rfl (by have w := jhm_is (m := jmf q439.2) w449.2.1; rw [w449.2.2.2] at w; exact w) rfl (jsml_s rfl) rfl (mm_Runs.up (d := 2) (by decide) (by have w := ok_296 (L := L) (xs := xs) (b := q439.2) (m := jmf q439.2) w449.2.1 w449.2.2.1 e451; rw [w449.2.2.2] at w; exact w)) ?_
  obtain ⟨h452, e453, e⟩ := jbind e
  obtain rfl : (jhm q439.2 q450.2) = h452 := Option.some.inj e453
  refine ey_istore (cd_403 rfl) mt_403 rfl ?_
  refine ey_aload_n (cd_403 rfl) f2 ?_
  obtain ⟨a454, e455, e⟩ := jbind e
  refine ey_rs (s0 := [jR x2]) (s1 := [jR (some a454)]) (by rw [e455]) ?_
  obtain ⟨u456, e457, e⟩ := jbind e
  have w458 := jlk_s e457
  refine ey_rs (s0 := [jR (some a454)]) (s1 := [jR (some 76)]) (by rw [w458.1]) ?_
  refine ey_cv (s0 := [jR (some 76)]) (s1 := []) (st' := [jI (jd_203 (jmf h452))]) (cd_403 rfl) mt_403 mt_203 rfl rfl rfl (by have w := jhm_is (m := jmf h452) w458.2.1; rw [w458.2.2.2] at w; exact w) rfl (jsml_s rfl) rfl (mm_Runs.up (d := 1) (by decide) (by have w := ok_203 (L := L) (xs := xs) (b := h452) (m := jmf h452) w458.2.1 w458.2.2.1 ; rw [w458.2.2.2] at w; exact w)) ?_
  refine ey_iload (cd_403 rfl) (jup_pi (lv := (jup lv 5 (jI q439.1))) (j := 5) (v := jI q450.1) (z := q439.1) rfl) ?_
  by_cases q459 : (jw (jd_203 (jmf h452))) = (jw q439.1)
  · rw [if_pos q459] at e
    refine ey_ceq (cd_403 rfl) rfl rfl rfl q459 ?_
    refine ey_iload (cd_403 rfl) (jup_pi (lv := (jup lv 5 (jI q439.1))) (j := 5) (v := jI q450.1) (z := q439.1) rfl) ?_
    by_cases q460 : (jw q439.1) = 0
    · rw [if_pos q460] at e
      refine ey_yne (cd_403 rfl) rfl rfl (fun w => w q460) ?_
      refine ey_aload_n (cd_403 rfl) f3 ?_
      refine ey_iconst (cd_403 rfl) ?_
      obtain ⟨a461, e462, e⟩ := jbind e
      refine ey_rs (s0 := [jI 0, jR x3]) (s1 := [jI 0, jR (some a461)]) (by rw [e462]) ?_
      obtain ⟨v463, e464, e⟩ := jbind e
      refine ey_lald (cd_403 rfl) e464 ?_
      refine ey_iload (cd_403 rfl) rfl ?_
      refine ey_i2l (cd_403 rfl) ?_
      refine ey_lcmp (cd_403 rfl) ?_
      by_cases q465 : (jwl v463) = (jw q450.1)
      · rw [if_pos q465] at e
        refine ey_zeq (cd_403 rfl) rfl rfl ((jlc_eq rfl (jwl_jw _)).mpr q465) ?_
        exact jk_403_b1235 e K (jup (jup lv 5 (jI q439.1)) 6 (jI q450.1)) f0 f1 f2 f3 (jup_o rfl (jup_pi (lv := lv) (j := 4) (v := jI q439.1) (z := x4) f4))
      · rw [if_neg q465] at e
        refine ey_yeq (cd_403 rfl) rfl rfl (fun w => q465 ((jlc_eq rfl (jwl_jw _)).mp w)) ?_
        cases e
    · rw [if_neg q460] at e
      refine ey_zne (cd_403 rfl) rfl rfl q460 ?_
      exact jk_403_b1235 e K (jup (jup lv 5 (jI q439.1)) 6 (jI q450.1)) f0 f1 f2 f3 (jup_o rfl (jup_pi (lv := lv) (j := 4) (v := jI q439.1) (z := x4) f4))
  · rw [if_neg q459] at e
    refine ey_neq (cd_403 rfl) rfl rfl rfl q459 ?_
    cases e
def jd_403_b1291 (L : Nat) (xs : Nat → Int32) (x1 : Option Nat) (x2 : Option Nat) (x3 : Option Nat) (x4 : Int) (h : jH) : Option ((Int × jH) ⊕ jH) :=
  jd_403_b3169 L xs x1 x2 x3 x4 h
set_option maxRecDepth 100000 in
theorem jk_403_b1291 {L : Nat} {xs : Nat → Int32} {x1 : Option Nat} {x2 : Option Nat} {x3 : Option Nat} {x4 : Int} {h : jH} {o : ((Int × jH) ⊕ jH)} {r : mm_R} (e : jd_403_b1291 L xs x1 x2 x3 x4 h = some o) (K : jsm (fun s => (∀ lv : jL, lv 0 = some (jR (some 1000000)) → lv 1 = some (jR x1) → lv 2 = some (jR x2) → lv 3 = some (jR x3) → lv 4 = some (jI s.1) → ey (mm_xt L xs) 72 403 23 lv [] s.2 r)) (fun x => (∀ lv : jL, ey (mm_xt L xs) 72 403 3175 lv [] x r)) o) : ∀ lv : jL, lv 0 = some (jR (some 1000000)) → lv 1 = some (jR x1) → lv 2 = some (jR x2) → lv 3 = some (jR x3) → lv 4 = some (jI x4) → ey (mm_xt L xs) 72 403 1291 lv [] h r := by
  intro lv f0 f1 f2 f3 f4
  unfold jd_403_b1291 at e
  refine ey_goto (cd_403 rfl) rfl ?_
  exact jk_403_b3169 e K lv f0 f1 f2 f3 f4
def jd_403_b1238 (L : Nat) (xs : Nat → Int32) (x1 : Option Nat) (x2 : Option Nat) (x3 : Option Nat) (x4 : Int) (h : jH) : Option ((Int × jH) ⊕ jH) :=
  ((jsc L xs (x4 + 1)).bind fun v467 => ((jd_376 x1 v467 x3 h).bind fun q469 => ((jsc L xs (x4 + 1)).bind fun v471 => ((x2).bind fun a473 => ((jlk q469.2 a473).bind fun u475 => ((jd_297 v471 (jmf q469.2)).bind fun q478 => ((some (jhm q469.2 q478.2)).bind fun h480 => ((x2).bind fun a482 => ((jlk h480 a482).bind fun u484 => (if (jw (jd_203 (jmf h480))) = (jw q469.1) then (if (jw q469.1) = 0 then ((x3).bind fun a489 => ((jal h480 a489 0).bind fun v491 => (if (jwl v491) = (jw q478.1) then jd_403_b1291 L xs x1 x2 x3 x4 h480 else none))) else jd_403_b1291 L xs x1 x2 x3 x4 h480) else none))))))))))
set_option maxRecDepth 100000 in
theorem jk_403_b1238 {L : Nat} {xs : Nat → Int32} {x1 : Option Nat} {x2 : Option Nat} {x3 : Option Nat} {x4 : Int} {h : jH} {o : ((Int × jH) ⊕ jH)} {r : mm_R} (e : jd_403_b1238 L xs x1 x2 x3 x4 h = some o) (K : jsm (fun s => (∀ lv : jL, lv 0 = some (jR (some 1000000)) → lv 1 = some (jR x1) → lv 2 = some (jR x2) → lv 3 = some (jR x3) → lv 4 = some (jI s.1) → ey (mm_xt L xs) 72 403 23 lv [] s.2 r)) (fun x => (∀ lv : jL, ey (mm_xt L xs) 72 403 3175 lv [] x r)) o) : ∀ lv : jL, lv 0 = some (jR (some 1000000)) → lv 1 = some (jR x1) → lv 2 = some (jR x2) → lv 3 = some (jR x3) → lv 4 = some (jI x4) → ey (mm_xt L xs) 72 403 1238 lv [] h r := by
  intro lv f0 f1 f2 f3 f4
  unfold jd_403_b1238 at e
  refine ey_aload_n (cd_403 rfl) f1 ?_
  refine ey_aload_n (cd_403 rfl) f0 ?_
  refine ey_iload (cd_403 rfl) f4 ?_
  refine ey_iconst (cd_403 rfl) ?_
  refine ey_iadd (cd_403 rfl) ?_
  obtain ⟨v467, e468, e⟩ := jbind e
  refine ey_iasc (cd_403 rfl) e468 ?_
  refine ey_aload_n (cd_403 rfl) f3 ?_
  obtain ⟨q469, e470, e⟩ := jbind e
  refine ey_cs (s0 := [jR x3, jI v467, jR x1]) (s1 := []) (st' := [jI q469.1]) (cd_403 rfl) mt_403 mt_376 rfl (by decide) rfl rfl (jsml_s rfl) rfl (mm_Runs.up (d := 4) (by decide) (ok_376 e470)) ?_
  refine ey_istore (cd_403 rfl) mt_403 rfl ?_
  refine ey_aload_n (cd_403 rfl) f2 ?_
  refine ey_aload_n (cd_403 rfl) f0 ?_
  refine ey_iload (cd_403 rfl) (jup_pi (lv := lv) (j := 4) (v := jI q469.1) (z := x4) f4) ?_
  refine ey_iconst (cd_403 rfl) ?_
  refine ey_iadd (cd_403 rfl) ?_
  obtain ⟨v471, e472, e⟩ := jbind e
  refine ey_iasc (cd_403 rfl) e472 ?_
  obtain ⟨a473, e474, e⟩ := jbind e
  refine ey_rs (s0 := [jI v471, jR x2]) (s1 := [jI v471, jR (some a473)]) (by rw [e474]) ?_
  obtain ⟨u475, e476, e⟩ := jbind e
  have w477 := jlk_s e476
  refine ey_rs (s0 := [jI v471, jR (some a473)]) (s1 := [jI v471, jR (some 76)]) (by rw [w477.1]) ?_
  obtain ⟨q478, e479, e⟩ := jbind e
  refine ey_cv (s0 := [jI v471, jR (some 76)]) (s1 := []) (st' := [jI q478.1]) (cd_403 rfl) mt_403 mt_297 rfl rfl rfl (by have w := jhm_is (m := jmf q469.2) w477.2.1; rw [w477.2.2.2] at w; exact w) rfl (jsml_s rfl) rfl (mm_Runs.up (d := 3) (by decide) (by have w := ok_297 (L := L) (xs := xs) (b := q469.2) (m := jmf q469.2) w477.2.1 w477.2.2.1 e479; rw [w477.2.2.2] at w; exact w)) ?_
  obtain ⟨h480, e481, e⟩ := jbind e
  obtain rfl : (jhm q469.2 q478.2) = h480 := Option.some.inj e481
  refine ey_istore (cd_403 rfl) mt_403 rfl ?_
  refine ey_aload_n (cd_403 rfl) f2 ?_
  obtain ⟨a482, e483, e⟩ := jbind e
  refine ey_rs (s0 := [jR x2]) (s1 := [jR (some a482)]) (by rw [e483]) ?_
  obtain ⟨u484, e485, e⟩ := jbind e
  have w486 := jlk_s e485
  refine ey_rs (s0 := [jR (some a482)]) (s1 := [jR (some 76)]) (by rw [w486.1]) ?_
  refine ey_cv (s0 := [jR (some 76)]) (s1 := []) (st' := [jI (jd_203 (jmf h480))]) (cd_403 rfl) mt_403 mt_203 rfl rfl rfl (by have w := jhm_is (m := jmf h480) w486.2.1; rw [w486.2.2.2] at w; exact w) rfl (jsml_s rfl) rfl (mm_Runs.up (d := 1) (by decide) (by have w := ok_203 (L := L) (xs := xs) (b := h480) (m := jmf h480) w486.2.1 w486.2.2.1 ; rw [w486.2.2.2] at w; exact w)) ?_
  refine ey_iload (cd_403 rfl) (jup_pi (lv := (jup lv 5 (jI q469.1))) (j := 5) (v := jI q478.1) (z := q469.1) rfl) ?_
  by_cases q487 : (jw (jd_203 (jmf h480))) = (jw q469.1)
  · rw [if_pos q487] at e
    refine ey_ceq (cd_403 rfl) rfl rfl rfl q487 ?_
    refine ey_iload (cd_403 rfl) (jup_pi (lv := (jup lv 5 (jI q469.1))) (j := 5) (v := jI q478.1) (z := q469.1) rfl) ?_
    by_cases q488 : (jw q469.1) = 0
    · rw [if_pos q488] at e
      refine ey_yne (cd_403 rfl) rfl rfl (fun w => w q488) ?_
      refine ey_aload_n (cd_403 rfl) f3 ?_
      refine ey_iconst (cd_403 rfl) ?_
      obtain ⟨a489, e490, e⟩ := jbind e
      refine ey_rs (s0 := [jI 0, jR x3]) (s1 := [jI 0, jR (some a489)]) (by rw [e490]) ?_
      obtain ⟨v491, e492, e⟩ := jbind e
      refine ey_lald (cd_403 rfl) e492 ?_
      refine ey_iload (cd_403 rfl) rfl ?_
      refine ey_i2l (cd_403 rfl) ?_
      refine ey_lcmp (cd_403 rfl) ?_
      by_cases q493 : (jwl v491) = (jw q478.1)
      · rw [if_pos q493] at e
        refine ey_zeq (cd_403 rfl) rfl rfl ((jlc_eq rfl (jwl_jw _)).mpr q493) ?_
        exact jk_403_b1291 e K (jup (jup lv 5 (jI q469.1)) 6 (jI q478.1)) f0 f1 f2 f3 (jup_o rfl (jup_pi (lv := lv) (j := 4) (v := jI q469.1) (z := x4) f4))
      · rw [if_neg q493] at e
        refine ey_yeq (cd_403 rfl) rfl rfl (fun w => q493 ((jlc_eq rfl (jwl_jw _)).mp w)) ?_
        cases e
    · rw [if_neg q488] at e
      refine ey_zne (cd_403 rfl) rfl rfl q488 ?_
      exact jk_403_b1291 e K (jup (jup lv 5 (jI q469.1)) 6 (jI q478.1)) f0 f1 f2 f3 (jup_o rfl (jup_pi (lv := lv) (j := 4) (v := jI q469.1) (z := x4) f4))
  · rw [if_neg q487] at e
    refine ey_neq (cd_403 rfl) rfl rfl rfl q487 ?_
    cases e
def jd_403_b1294 (L : Nat) (xs : Nat → Int32) (x1 : Option Nat) (x2 : Option Nat) (x3 : Option Nat) (x4 : Int) (h : jH) : Option ((Int × jH) ⊕ jH) :=
  ((x1).bind fun a495 => ((jck h a495 11).bind fun u497 => ((jd_154 a495 h).bind fun q499 => ((x2).bind fun a501 => ((jlk q499.2 a501).bind fun u503 => ((jd_298 (jmf q499.2)).bind fun q506 => ((some (jhm q499.2 q506.2)).bind fun h508 => (if (jw q499.1) = (jw q506.1) then jd_403_b3169 L xs x1 x2 x3 x4 h508 else none))))))))
set_option maxRecDepth 100000 in
theorem jk_403_b1294 {L : Nat} {xs : Nat → Int32} {x1 : Option Nat} {x2 : Option Nat} {x3 : Option Nat} {x4 : Int} {h : jH} {o : ((Int × jH) ⊕ jH)} {r : mm_R} (e : jd_403_b1294 L xs x1 x2 x3 x4 h = some o) (K : jsm (fun s => (∀ lv : jL, lv 0 = some (jR (some 1000000)) → lv 1 = some (jR x1) → lv 2 = some (jR x2) → lv 3 = some (jR x3) → lv 4 = some (jI s.1) → ey (mm_xt L xs) 72 403 23 lv [] s.2 r)) (fun x => (∀ lv : jL, ey (mm_xt L xs) 72 403 3175 lv [] x r)) o) : ∀ lv : jL, lv 0 = some (jR (some 1000000)) → lv 1 = some (jR x1) → lv 2 = some (jR x2) → lv 3 = some (jR x3) → lv 4 = some (jI x4) → ey (mm_xt L xs) 72 403 1294 lv [] h r := by
  intro lv f0 f1 f2 f3 f4
  unfold jd_403_b1294 at e
  refine ey_aload_n (cd_403 rfl) f1 ?_
  obtain ⟨a495, e496, e⟩ := jbind e
  refine ey_rs (s0 := [jR x1]) (s1 := [jR (some a495)]) (by rw [e496]) ?_
  obtain ⟨u497, e498, e⟩ := jbind e
  obtain ⟨q499, e500, e⟩ := jbind e
  refine ey_cv (s0 := [jR (some a495)]) (s1 := []) (st' := [jI q499.1]) (cd_403 rfl) mt_403 mt_154 rfl rfl rfl (jck_s e498) rfl (jsml_s rfl) rfl (mm_Runs.up (d := 1) (by decide) (ok_154 e500)) ?_
  refine ey_aload_n (cd_403 rfl) f2 ?_
  obtain ⟨a501, e502, e⟩ := jbind e
  refine ey_rs (s0 := [jR x2, jI q499.1]) (s1 := [jR (some a501), jI q499.1]) (by rw [e502]) ?_
  obtain ⟨u503, e504, e⟩ := jbind e
  have w505 := jlk_s e504
  refine ey_rs (s0 := [jR (some a501), jI q499.1]) (s1 := [jR (some 76), jI q499.1]) (by rw [w505.1]) ?_
  obtain ⟨q506, e507, e⟩ := jbind e
  refine ey_cv (s0 := [jR (some 76), jI q499.1]) (s1 := [jI q499.1]) (st' := [jI q506.1, jI q499.1]) (cd_403 rfl) mt_403 mt_298 rfl rfl rfl (by have w := jhm_is (m := jmf q499.2) w505.2.1; rw [w505.2.2.2] at w; exact w) rfl (jsml_s rfl) rfl (mm_Runs.up (d := 1) (by decide) (by have w := ok_298 (L := L) (xs := xs) (b := q499.2) (m := jmf q499.2) w505.2.1 w505.2.2.1 e507; rw [w505.2.2.2] at w; exact w)) ?_
  obtain ⟨h508, e509, e⟩ := jbind e
  obtain rfl : (jhm q499.2 q506.2) = h508 := Option.some.inj e509
  by_cases q510 : (jw q499.1) = (jw q506.1)
  · rw [if_pos q510] at e
    refine ey_ceq (cd_403 rfl) rfl rfl rfl q510 ?_
    exact jk_403_b3169 e K lv f0 f1 f2 f3 f4
  · rw [if_neg q510] at e
    refine ey_neq (cd_403 rfl) rfl rfl rfl q510 ?_
    cases e
def jd_403_b1360 (L : Nat) (xs : Nat → Int32) (x1 : Option Nat) (x2 : Option Nat) (x3 : Option Nat) (x4 : Int) (h : jH) : Option ((Int × jH) ⊕ jH) :=
  jd_403_b3169 L xs x1 x2 x3 x4 h
set_option maxRecDepth 100000 in
theorem jk_403_b1360 {L : Nat} {xs : Nat → Int32} {x1 : Option Nat} {x2 : Option Nat} {x3 : Option Nat} {x4 : Int} {h : jH} {o : ((Int × jH) ⊕ jH)} {r : mm_R} (e : jd_403_b1360 L xs x1 x2 x3 x4 h = some o) (K : jsm (fun s => (∀ lv : jL, lv 0 = some (jR (some 1000000)) → lv 1 = some (jR x1) → lv 2 = some (jR x2) → lv 3 = some (jR x3) → lv 4 = some (jI s.1) → ey (mm_xt L xs) 72 403 23 lv [] s.2 r)) (fun x => (∀ lv : jL, ey (mm_xt L xs) 72 403 3175 lv [] x r)) o) : ∀ lv : jL, lv 0 = some (jR (some 1000000)) → lv 1 = some (jR x1) → lv 2 = some (jR x2) → lv 3 = some (jR x3) → lv 4 = some (jI x4) → ey (mm_xt L xs) 72 403 1360 lv [] h r := by
  intro lv f0 f1 f2 f3 f4
  unfold jd_403_b1360 at e
  refine ey_goto (cd_403 rfl) rfl ?_
  exact jk_403_b3169 e K lv f0 f1 f2 f3 f4
def jd_403_b1307 (L : Nat) (xs : Nat → Int32) (x1 : Option Nat) (x2 : Option Nat) (x3 : Option Nat) (x4 : Int) (h : jH) : Option ((Int × jH) ⊕ jH) :=
  ((jsc L xs (x4 + 1)).bind fun v512 => ((jd_377 x1 v512 x3 h).bind fun q514 => ((jsc L xs (x4 + 1)).bind fun v516 => ((x2).bind fun a518 => ((jlk q514.2 a518).bind fun u520 => ((jd_300 v516 (jmf q514.2)).bind fun q523 => ((some (jhm q514.2 q523.2)).bind fun h525 => ((x2).bind fun a527 => ((jlk h525 a527).bind fun u529 => (if (jw (jd_203 (jmf h525))) = (jw q514.1) then (if (jw q514.1) = 0 then ((x3).bind fun a534 => ((jal h525 a534 0).bind fun v536 => (if (jwl v536) = (jw q523.1) then jd_403_b1360 L xs x1 x2 x3 x4 h525 else none))) else jd_403_b1360 L xs x1 x2 x3 x4 h525) else none))))))))))
set_option maxRecDepth 100000 in
theorem jk_403_b1307 {L : Nat} {xs : Nat → Int32} {x1 : Option Nat} {x2 : Option Nat} {x3 : Option Nat} {x4 : Int} {h : jH} {o : ((Int × jH) ⊕ jH)} {r : mm_R} (e : jd_403_b1307 L xs x1 x2 x3 x4 h = some o) (K : jsm (fun s => (∀ lv : jL, lv 0 = some (jR (some 1000000)) → lv 1 = some (jR x1) → lv 2 = some (jR x2) → lv 3 = some (jR x3) → lv 4 = some (jI s.1) → ey (mm_xt L xs) 72 403 23 lv [] s.2 r)) (fun x => (∀ lv : jL, ey (mm_xt L xs) 72 403 3175 lv [] x r)) o) : ∀ lv : jL, lv 0 = some (jR (some 1000000)) → lv 1 = some (jR x1) → lv 2 = some (jR x2) → lv 3 = some (jR x3) → lv 4 = some (jI x4) → ey (mm_xt L xs) 72 403 1307 lv [] h r := by
  intro lv f0 f1 f2 f3 f4
  unfold jd_403_b1307 at e
  refine ey_aload_n (cd_403 rfl) f1 ?_
  refine ey_aload_n (cd_403 rfl) f0 ?_
  refine ey_iload (cd_403 rfl) f4 ?_
  refine ey_iconst (cd_403 rfl) ?_
  refine ey_iadd (cd_403 rfl) ?_
  obtain ⟨v512, e513, e⟩ := jbind e
  refine ey_iasc (cd_403 rfl) e513 ?_
  refine ey_aload_n (cd_403 rfl) f3 ?_
  obtain ⟨q514, e515, e⟩ := jbind e
  refine ey_cs (s0 := [jR x3, jI v512, jR x1]) (s1 := []) (st' := [jI q514.1]) (cd_403 rfl) mt_403 mt_377 rfl (by decide) rfl rfl (jsml_s rfl) rfl (mm_Runs.up (d := 9) (by decide) (ok_377 e515)) ?_
  refine ey_istore (cd_403 rfl) mt_403 rfl ?_
  refine ey_aload_n (cd_403 rfl) f2 ?_
  refine ey_aload_n (cd_403 rfl) f0 ?_
  refine ey_iload (cd_403 rfl) (jup_pi (lv := lv) (j := 4) (v := jI q514.1) (z := x4) f4) ?_
  refine ey_iconst (cd_403 rfl) ?_
  refine ey_iadd (cd_403 rfl) ?_
  obtain ⟨v516, e517, e⟩ := jbind e
  refine ey_iasc (cd_403 rfl) e517 ?_
  obtain ⟨a518, e519, e⟩ := jbind e
  refine ey_rs (s0 := [jI v516, jR x2]) (s1 := [jI v516, jR (some a518)]) (by rw [e519]) ?_
  obtain ⟨u520, e521, e⟩ := jbind e
  have w522 := jlk_s e521
  refine ey_rs (s0 := [jI v516, jR (some a518)]) (s1 := [jI v516, jR (some 76)]) (by rw [w522.1]) ?_
  obtain ⟨q523, e524, e⟩ := jbind e
  refine ey_cv (s0 := [jI v516, jR (some 76)]) (s1 := []) (st' := [jI q523.1]) (cd_403 rfl) mt_403 mt_300 rfl rfl rfl (by have w := jhm_is (m := jmf q514.2) w522.2.1; rw [w522.2.2.2] at w; exact w) rfl (jsml_s rfl) rfl (mm_Runs.up (d := 12) (by decide) (by have w := ok_300 (L := L) (xs := xs) (b := q514.2) (m := jmf q514.2) w522.2.1 w522.2.2.1 e524; rw [w522.2.2.2] at w; exact w)) ?_
  obtain ⟨h525, e526, e⟩ := jbind e
  obtain rfl : (jhm q514.2 q523.2) = h525 := Option.some.inj e526
  refine ey_istore (cd_403 rfl) mt_403 rfl ?_
  refine ey_aload_n (cd_403 rfl) f2 ?_
  obtain ⟨a527, e528, e⟩ := jbind e
  refine ey_rs (s0 := [jR x2]) (s1 := [jR (some a527)]) (by rw [e528]) ?_
  obtain ⟨u529, e530, e⟩ := jbind e
  have w531 := jlk_s e530
  refine ey_rs (s0 := [jR (some a527)]) (s1 := [jR (some 76)]) (by rw [w531.1]) ?_
  refine ey_cv (s0 := [jR (some 76)]) (s1 := []) (st' := [jI (jd_203 (jmf h525))]) (cd_403 rfl) mt_403 mt_203 rfl rfl rfl (by have w := jhm_is (m := jmf h525) w531.2.1; rw [w531.2.2.2] at w; exact w) rfl (jsml_s rfl) rfl (mm_Runs.up (d := 1) (by decide) (by have w := ok_203 (L := L) (xs := xs) (b := h525) (m := jmf h525) w531.2.1 w531.2.2.1 ; rw [w531.2.2.2] at w; exact w)) ?_
  refine ey_iload (cd_403 rfl) (jup_pi (lv := (jup lv 5 (jI q514.1))) (j := 5) (v := jI q523.1) (z := q514.1) rfl) ?_
  by_cases q532 : (jw (jd_203 (jmf h525))) = (jw q514.1)
  · rw [if_pos q532] at e
    refine ey_ceq (cd_403 rfl) rfl rfl rfl q532 ?_
    refine ey_iload (cd_403 rfl) (jup_pi (lv := (jup lv 5 (jI q514.1))) (j := 5) (v := jI q523.1) (z := q514.1) rfl) ?_
    by_cases q533 : (jw q514.1) = 0
    · rw [if_pos q533] at e
      refine ey_yne (cd_403 rfl) rfl rfl (fun w => w q533) ?_
      refine ey_aload_n (cd_403 rfl) f3 ?_
      refine ey_iconst (cd_403 rfl) ?_
      obtain ⟨a534, e535, e⟩ := jbind e
      refine ey_rs (s0 := [jI 0, jR x3]) (s1 := [jI 0, jR (some a534)]) (by rw [e535]) ?_
      obtain ⟨v536, e537, e⟩ := jbind e
      refine ey_lald (cd_403 rfl) e537 ?_
      refine ey_iload (cd_403 rfl) rfl ?_
      refine ey_i2l (cd_403 rfl) ?_
      refine ey_lcmp (cd_403 rfl) ?_
      by_cases q538 : (jwl v536) = (jw q523.1)
      · rw [if_pos q538] at e
        refine ey_zeq (cd_403 rfl) rfl rfl ((jlc_eq rfl (jwl_jw _)).mpr q538) ?_
        exact jk_403_b1360 e K (jup (jup lv 5 (jI q514.1)) 6 (jI q523.1)) f0 f1 f2 f3 (jup_o rfl (jup_pi (lv := lv) (j := 4) (v := jI q514.1) (z := x4) f4))
      · rw [if_neg q538] at e
        refine ey_yeq (cd_403 rfl) rfl rfl (fun w => q538 ((jlc_eq rfl (jwl_jw _)).mp w)) ?_
        cases e
    · rw [if_neg q533] at e
      refine ey_zne (cd_403 rfl) rfl rfl q533 ?_
      exact jk_403_b1360 e K (jup (jup lv 5 (jI q514.1)) 6 (jI q523.1)) f0 f1 f2 f3 (jup_o rfl (jup_pi (lv := lv) (j := 4) (v := jI q514.1) (z := x4) f4))
  · rw [if_neg q532] at e
    refine ey_neq (cd_403 rfl) rfl rfl rfl q532 ?_
    cases e
def jd_403_b1404 (L : Nat) (xs : Nat → Int32) (x1 : Option Nat) (x2 : Option Nat) (x3 : Option Nat) (x4 : Int) (h : jH) : Option ((Int × jH) ⊕ jH) :=
  jd_403_b3169 L xs x1 x2 x3 x4 h
set_option maxRecDepth 100000 in
theorem jk_403_b1404 {L : Nat} {xs : Nat → Int32} {x1 : Option Nat} {x2 : Option Nat} {x3 : Option Nat} {x4 : Int} {h : jH} {o : ((Int × jH) ⊕ jH)} {r : mm_R} (e : jd_403_b1404 L xs x1 x2 x3 x4 h = some o) (K : jsm (fun s => (∀ lv : jL, lv 0 = some (jR (some 1000000)) → lv 1 = some (jR x1) → lv 2 = some (jR x2) → lv 3 = some (jR x3) → lv 4 = some (jI s.1) → ey (mm_xt L xs) 72 403 23 lv [] s.2 r)) (fun x => (∀ lv : jL, ey (mm_xt L xs) 72 403 3175 lv [] x r)) o) : ∀ lv : jL, lv 0 = some (jR (some 1000000)) → lv 1 = some (jR x1) → lv 2 = some (jR x2) → lv 3 = some (jR x3) → lv 4 = some (jI x4) → ey (mm_xt L xs) 72 403 1404 lv [] h r := by
  intro lv f0 f1 f2 f3 f4
  unfold jd_403_b1404 at e
  refine ey_goto (cd_403 rfl) rfl ?_
  exact jk_403_b3169 e K lv f0 f1 f2 f3 f4
def jd_403_b1363 (L : Nat) (xs : Nat → Int32) (x1 : Option Nat) (x2 : Option Nat) (x3 : Option Nat) (x4 : Int) (h : jH) : Option ((Int × jH) ⊕ jH) :=
  ((jd_378 x1 x3 h).bind fun q540 => ((x2).bind fun a542 => ((jlk q540.2 a542).bind fun u544 => ((jd_310 (jmf q540.2)).bind fun q547 => ((some (jhm q540.2 q547.2)).bind fun h549 => ((x2).bind fun a551 => ((jlk h549 a551).bind fun u553 => (if (jw (jd_203 (jmf h549))) = (jw q540.1) then (if (jw q540.1) = 0 then ((x3).bind fun a558 => ((jal h549 a558 0).bind fun v560 => (if (jwl v560) = (jw q547.1) then jd_403_b1404 L xs x1 x2 x3 x4 h549 else none))) else jd_403_b1404 L xs x1 x2 x3 x4 h549) else none))))))))
set_option maxRecDepth 100000 in
theorem jk_403_b1363 {L : Nat} {xs : Nat → Int32} {x1 : Option Nat} {x2 : Option Nat} {x3 : Option Nat} {x4 : Int} {h : jH} {o : ((Int × jH) ⊕ jH)} {r : mm_R} (e : jd_403_b1363 L xs x1 x2 x3 x4 h = some o) (K : jsm (fun s => (∀ lv : jL, lv 0 = some (jR (some 1000000)) → lv 1 = some (jR x1) → lv 2 = some (jR x2) → lv 3 = some (jR x3) → lv 4 = some (jI s.1) → ey (mm_xt L xs) 72 403 23 lv [] s.2 r)) (fun x => (∀ lv : jL, ey (mm_xt L xs) 72 403 3175 lv [] x r)) o) : ∀ lv : jL, lv 0 = some (jR (some 1000000)) → lv 1 = some (jR x1) → lv 2 = some (jR x2) → lv 3 = some (jR x3) → lv 4 = some (jI x4) → ey (mm_xt L xs) 72 403 1363 lv [] h r := by
  intro lv f0 f1 f2 f3 f4
  unfold jd_403_b1363 at e
  refine ey_aload_n (cd_403 rfl) f1 ?_
  refine ey_aload_n (cd_403 rfl) f3 ?_
  obtain ⟨q540, e541, e⟩ := jbind e
  refine ey_cs (s0 := [jR x3, jR x1]) (s1 := []) (st' := [jI q540.1]) (cd_403 rfl) mt_403 mt_378 rfl (by decide) rfl rfl (jsml_s rfl) rfl (mm_Runs.up (d := 9) (by decide) (ok_378 e541)) ?_
  refine ey_istore (cd_403 rfl) mt_403 rfl ?_
  refine ey_aload_n (cd_403 rfl) f2 ?_
  obtain ⟨a542, e543, e⟩ := jbind e
  refine ey_rs (s0 := [jR x2]) (s1 := [jR (some a542)]) (by rw [e543]) ?_
  obtain ⟨u544, e545, e⟩ := jbind e
  have w546 := jlk_s e545
  refine ey_rs (s0 := [jR (some a542)]) (s1 := [jR (some 76)]) (by rw [w546.1]) ?_
  obtain ⟨q547, e548, e⟩ := jbind e
  refine ey_cv (s0 := [jR (some 76)]) (s1 := []) (st' := [jI q547.1]) (cd_403 rfl) mt_403 mt_310 rfl rfl rfl (by have w := jhm_is (m := jmf q540.2) w546.2.1; rw [w546.2.2.2] at w; exact w) rfl (jsml_s rfl) rfl (mm_Runs.up (d := 11) (by decide) (by have w := ok_310 (L := L) (xs := xs) (b := q540.2) (m := jmf q540.2) w546.2.1 w546.2.2.1 e548; rw [w546.2.2.2] at w; exact w)) ?_
  obtain ⟨h549, e550, e⟩ := jbind e
  obtain rfl : (jhm q540.2 q547.2) = h549 := Option.some.inj e550
  refine ey_istore (cd_403 rfl) mt_403 rfl ?_
  refine ey_aload_n (cd_403 rfl) f2 ?_
  obtain ⟨a551, e552, e⟩ := jbind e
  refine ey_rs (s0 := [jR x2]) (s1 := [jR (some a551)]) (by rw [e552]) ?_
  obtain ⟨u553, e554, e⟩ := jbind e
  have w555 := jlk_s e554
  refine ey_rs (s0 := [jR (some a551)]) (s1 := [jR (some 76)]) (by rw [w555.1]) ?_
  refine ey_cv (s0 := [jR (some 76)]) (s1 := []) (st' := [jI (jd_203 (jmf h549))]) (cd_403 rfl) mt_403 mt_203 rfl rfl rfl (by have w := jhm_is (m := jmf h549) w555.2.1; rw [w555.2.2.2] at w; exact w) rfl (jsml_s rfl) rfl (mm_Runs.up (d := 1) (by decide) (by have w := ok_203 (L := L) (xs := xs) (b := h549) (m := jmf h549) w555.2.1 w555.2.2.1 ; rw [w555.2.2.2] at w; exact w)) ?_
  refine ey_iload (cd_403 rfl) (jup_pi (lv := (jup lv 5 (jI q540.1))) (j := 5) (v := jI q547.1) (z := q540.1) rfl) ?_
  by_cases q556 : (jw (jd_203 (jmf h549))) = (jw q540.1)
  · rw [if_pos q556] at e
    refine ey_ceq (cd_403 rfl) rfl rfl rfl q556 ?_
    refine ey_iload (cd_403 rfl) (jup_pi (lv := (jup lv 5 (jI q540.1))) (j := 5) (v := jI q547.1) (z := q540.1) rfl) ?_
    by_cases q557 : (jw q540.1) = 0
    · rw [if_pos q557] at e
      refine ey_yne (cd_403 rfl) rfl rfl (fun w => w q557) ?_
      refine ey_aload_n (cd_403 rfl) f3 ?_
      refine ey_iconst (cd_403 rfl) ?_
      obtain ⟨a558, e559, e⟩ := jbind e
      refine ey_rs (s0 := [jI 0, jR x3]) (s1 := [jI 0, jR (some a558)]) (by rw [e559]) ?_
      obtain ⟨v560, e561, e⟩ := jbind e
      refine ey_lald (cd_403 rfl) e561 ?_
      refine ey_iload (cd_403 rfl) rfl ?_
      refine ey_i2l (cd_403 rfl) ?_
      refine ey_lcmp (cd_403 rfl) ?_
      by_cases q562 : (jwl v560) = (jw q547.1)
      · rw [if_pos q562] at e
        refine ey_zeq (cd_403 rfl) rfl rfl ((jlc_eq rfl (jwl_jw _)).mpr q562) ?_
        exact jk_403_b1404 e K (jup (jup lv 5 (jI q540.1)) 6 (jI q547.1)) f0 f1 f2 f3 (jup_o rfl (jup_pi (lv := lv) (j := 4) (v := jI q540.1) (z := x4) f4))
      · rw [if_neg q562] at e
        refine ey_yeq (cd_403 rfl) rfl rfl (fun w => q562 ((jlc_eq rfl (jwl_jw _)).mp w)) ?_
        cases e
    · rw [if_neg q557] at e
      refine ey_zne (cd_403 rfl) rfl rfl q557 ?_
      exact jk_403_b1404 e K (jup (jup lv 5 (jI q540.1)) 6 (jI q547.1)) f0 f1 f2 f3 (jup_o rfl (jup_pi (lv := lv) (j := 4) (v := jI q540.1) (z := x4) f4))
  · rw [if_neg q556] at e
    refine ey_neq (cd_403 rfl) rfl rfl rfl q556 ?_
    cases e
def jd_403_b1460 (L : Nat) (xs : Nat → Int32) (x1 : Option Nat) (x2 : Option Nat) (x3 : Option Nat) (x4 : Int) (h : jH) : Option ((Int × jH) ⊕ jH) :=
  jd_403_b3169 L xs x1 x2 x3 x4 h
set_option maxRecDepth 100000 in
theorem jk_403_b1460 {L : Nat} {xs : Nat → Int32} {x1 : Option Nat} {x2 : Option Nat} {x3 : Option Nat} {x4 : Int} {h : jH} {o : ((Int × jH) ⊕ jH)} {r : mm_R} (e : jd_403_b1460 L xs x1 x2 x3 x4 h = some o) (K : jsm (fun s => (∀ lv : jL, lv 0 = some (jR (some 1000000)) → lv 1 = some (jR x1) → lv 2 = some (jR x2) → lv 3 = some (jR x3) → lv 4 = some (jI s.1) → ey (mm_xt L xs) 72 403 23 lv [] s.2 r)) (fun x => (∀ lv : jL, ey (mm_xt L xs) 72 403 3175 lv [] x r)) o) : ∀ lv : jL, lv 0 = some (jR (some 1000000)) → lv 1 = some (jR x1) → lv 2 = some (jR x2) → lv 3 = some (jR x3) → lv 4 = some (jI x4) → ey (mm_xt L xs) 72 403 1460 lv [] h r := by
  intro lv f0 f1 f2 f3 f4
  unfold jd_403_b1460 at e
  refine ey_goto (cd_403 rfl) rfl ?_
  exact jk_403_b3169 e K lv f0 f1 f2 f3 f4
def jd_403_b1407 (L : Nat) (xs : Nat → Int32) (x1 : Option Nat) (x2 : Option Nat) (x3 : Option Nat) (x4 : Int) (h : jH) : Option ((Int × jH) ⊕ jH) :=
  ((jsc L xs (x4 + 1)).bind fun v564 => ((jd_379 x1 v564 x3 h).bind fun q566 => ((jsc L xs (x4 + 1)).bind fun v568 => ((x2).bind fun a570 => ((jlk q566.2 a570).bind fun u572 => ((jd_312 v568 (jmf q566.2)).bind fun q575 => ((some (jhm q566.2 q575.2)).bind fun h577 => ((x2).bind fun a579 => ((jlk h577 a579).bind fun u581 => (if (jw (jd_203 (jmf h577))) = (jw q566.1) then (if (jw q566.1) = 0 then ((x3).bind fun a586 => ((jal h577 a586 0).bind fun v588 => (if (jwl v588) = (jw q575.1) then jd_403_b1460 L xs x1 x2 x3 x4 h577 else none))) else jd_403_b1460 L xs x1 x2 x3 x4 h577) else none))))))))))
set_option maxRecDepth 100000 in
theorem jk_403_b1407 {L : Nat} {xs : Nat → Int32} {x1 : Option Nat} {x2 : Option Nat} {x3 : Option Nat} {x4 : Int} {h : jH} {o : ((Int × jH) ⊕ jH)} {r : mm_R} (e : jd_403_b1407 L xs x1 x2 x3 x4 h = some o) (K : jsm (fun s => (∀ lv : jL, lv 0 = some (jR (some 1000000)) → lv 1 = some (jR x1) → lv 2 = some (jR x2) → lv 3 = some (jR x3) → lv 4 = some (jI s.1) → ey (mm_xt L xs) 72 403 23 lv [] s.2 r)) (fun x => (∀ lv : jL, ey (mm_xt L xs) 72 403 3175 lv [] x r)) o) : ∀ lv : jL, lv 0 = some (jR (some 1000000)) → lv 1 = some (jR x1) → lv 2 = some (jR x2) → lv 3 = some (jR x3) → lv 4 = some (jI x4) → ey (mm_xt L xs) 72 403 1407 lv [] h r := by
  intro lv f0 f1 f2 f3 f4
  unfold jd_403_b1407 at e
  refine ey_aload_n (cd_403 rfl) f1 ?_
  refine ey_aload_n (cd_403 rfl) f0 ?_
  refine ey_iload (cd_403 rfl) f4 ?_
  refine ey_iconst (cd_403 rfl) ?_
  refine ey_iadd (cd_403 rfl) ?_
  obtain ⟨v564, e565, e⟩ := jbind e
  refine ey_iasc (cd_403 rfl) e565 ?_
  refine ey_aload_n (cd_403 rfl) f3 ?_
  obtain ⟨q566, e567, e⟩ := jbind e
  refine ey_cs (s0 := [jR x3, jI v564, jR x1]) (s1 := []) (st' := [jI q566.1]) (cd_403 rfl) mt_403 mt_379 rfl (by decide) rfl rfl (jsml_s rfl) rfl (mm_Runs.up (d := 3) (by decide) (ok_379 e567)) ?_
  refine ey_istore (cd_403 rfl) mt_403 rfl ?_
  refine ey_aload_n (cd_403 rfl) f2 ?_
  refine ey_aload_n (cd_403 rfl) f0 ?_
  refine ey_iload (cd_403 rfl) (jup_pi (lv := lv) (j := 4) (v := jI q566.1) (z := x4) f4) ?_
  refine ey_iconst (cd_403 rfl) ?_
  refine ey_iadd (cd_403 rfl) ?_
  obtain ⟨v568, e569, e⟩ := jbind e
  refine ey_iasc (cd_403 rfl) e569 ?_
  obtain ⟨a570, e571, e⟩ := jbind e
  refine ey_rs (s0 := [jI v568, jR x2]) (s1 := [jI v568, jR (some a570)]) (by rw [e571]) ?_
  obtain ⟨u572, e573, e⟩ := jbind e
  have w574 := jlk_s e573
  refine ey_rs (s0 := [jI v568, jR (some a570)]) (s1 := [jI v568, jR (some 76)]) (by rw [w574.1]) ?_
  obtain ⟨q575, e576, e⟩ := jbind e
  refine ey_cv (s0 := [jI v568, jR (some 76)]) (s1 := []) (st' := [jI q575.1]) (cd_403 rfl) mt_403 mt_312 rfl rfl rfl (by have w := jhm_is (m := jmf q566.2) w574.2.1; rw [w574.2.2.2] at w; exact w) rfl (jsml_s rfl) rfl (mm_Runs.up (d := 3) (by decide) (by have w := ok_312 (L := L) (xs := xs) (b := q566.2) (m := jmf q566.2) w574.2.1 w574.2.2.1 e576; rw [w574.2.2.2] at w; exact w)) ?_
  obtain ⟨h577, e578, e⟩ := jbind e
  obtain rfl : (jhm q566.2 q575.2) = h577 := Option.some.inj e578
  refine ey_istore (cd_403 rfl) mt_403 rfl ?_
  refine ey_aload_n (cd_403 rfl) f2 ?_
  obtain ⟨a579, e580, e⟩ := jbind e
  refine ey_rs (s0 := [jR x2]) (s1 := [jR (some a579)]) (by rw [e580]) ?_
  obtain ⟨u581, e582, e⟩ := jbind e
  have w583 := jlk_s e582
  refine ey_rs (s0 := [jR (some a579)]) (s1 := [jR (some 76)]) (by rw [w583.1]) ?_
  refine ey_cv (s0 := [jR (some 76)]) (s1 := []) (st' := [jI (jd_203 (jmf h577))]) (cd_403 rfl) mt_403 mt_203 rfl rfl rfl (by have w := jhm_is (m := jmf h577) w583.2.1; rw [w583.2.2.2] at w; exact w) rfl (jsml_s rfl) rfl (mm_Runs.up (d := 1) (by decide) (by have w := ok_203 (L := L) (xs := xs) (b := h577) (m := jmf h577) w583.2.1 w583.2.2.1 ; rw [w583.2.2.2] at w; exact w)) ?_
  refine ey_iload (cd_403 rfl) (jup_pi (lv := (jup lv 5 (jI q566.1))) (j := 5) (v := jI q575.1) (z := q566.1) rfl) ?_
  by_cases q584 : (jw (jd_203 (jmf h577))) = (jw q566.1)
  · rw [if_pos q584] at e
    refine ey_ceq (cd_403 rfl) rfl rfl rfl q584 ?_
    refine ey_iload (cd_403 rfl) (jup_pi (lv := (jup lv 5 (jI q566.1))) (j := 5) (v := jI q575.1) (z := q566.1) rfl) ?_
    by_cases q585 : (jw q566.1) = 0
    · rw [if_pos q585] at e
      refine ey_yne (cd_403 rfl) rfl rfl (fun w => w q585) ?_
      refine ey_aload_n (cd_403 rfl) f3 ?_
      refine ey_iconst (cd_403 rfl) ?_
      obtain ⟨a586, e587, e⟩ := jbind e
      refine ey_rs (s0 := [jI 0, jR x3]) (s1 := [jI 0, jR (some a586)]) (by rw [e587]) ?_
      obtain ⟨v588, e589, e⟩ := jbind e
      refine ey_lald (cd_403 rfl) e589 ?_
      refine ey_iload (cd_403 rfl) rfl ?_
      refine ey_i2l (cd_403 rfl) ?_
      refine ey_lcmp (cd_403 rfl) ?_
      by_cases q590 : (jwl v588) = (jw q575.1)
      · rw [if_pos q590] at e
        refine ey_zeq (cd_403 rfl) rfl rfl ((jlc_eq rfl (jwl_jw _)).mpr q590) ?_
        exact jk_403_b1460 e K (jup (jup lv 5 (jI q566.1)) 6 (jI q575.1)) f0 f1 f2 f3 (jup_o rfl (jup_pi (lv := lv) (j := 4) (v := jI q566.1) (z := x4) f4))
      · rw [if_neg q590] at e
        refine ey_yeq (cd_403 rfl) rfl rfl (fun w => q590 ((jlc_eq rfl (jwl_jw _)).mp w)) ?_
        cases e
    · rw [if_neg q585] at e
      refine ey_zne (cd_403 rfl) rfl rfl q585 ?_
      exact jk_403_b1460 e K (jup (jup lv 5 (jI q566.1)) 6 (jI q575.1)) f0 f1 f2 f3 (jup_o rfl (jup_pi (lv := lv) (j := 4) (v := jI q566.1) (z := x4) f4))
  · rw [if_neg q584] at e
    refine ey_neq (cd_403 rfl) rfl rfl rfl q584 ?_
    cases e
def jd_403_b1528 (L : Nat) (xs : Nat → Int32) (x1 : Option Nat) (x2 : Option Nat) (x3 : Option Nat) (x4 : Int) (h : jH) : Option ((Int × jH) ⊕ jH) :=
  jd_403_b3169 L xs x1 x2 x3 x4 h
set_option maxRecDepth 100000 in
theorem jk_403_b1528 {L : Nat} {xs : Nat → Int32} {x1 : Option Nat} {x2 : Option Nat} {x3 : Option Nat} {x4 : Int} {h : jH} {o : ((Int × jH) ⊕ jH)} {r : mm_R} (e : jd_403_b1528 L xs x1 x2 x3 x4 h = some o) (K : jsm (fun s => (∀ lv : jL, lv 0 = some (jR (some 1000000)) → lv 1 = some (jR x1) → lv 2 = some (jR x2) → lv 3 = some (jR x3) → lv 4 = some (jI s.1) → ey (mm_xt L xs) 72 403 23 lv [] s.2 r)) (fun x => (∀ lv : jL, ey (mm_xt L xs) 72 403 3175 lv [] x r)) o) : ∀ lv : jL, lv 0 = some (jR (some 1000000)) → lv 1 = some (jR x1) → lv 2 = some (jR x2) → lv 3 = some (jR x3) → lv 4 = some (jI x4) → ey (mm_xt L xs) 72 403 1528 lv [] h r := by
  intro lv f0 f1 f2 f3 f4
  unfold jd_403_b1528 at e
  refine ey_goto (cd_403 rfl) rfl ?_
  exact jk_403_b3169 e K lv f0 f1 f2 f3 f4
def jd_403_b1463 (L : Nat) (xs : Nat → Int32) (x1 : Option Nat) (x2 : Option Nat) (x3 : Option Nat) (x4 : Int) (h : jH) : Option ((Int × jH) ⊕ jH) :=
  ((jsc L xs (x4 + 1)).bind fun v592 => ((jsc L xs (x4 + 2)).bind fun v594 => ((jd_380 x1 v592 v594 x3 h).bind fun q596 => ((jsc L xs (x4 + 1)).bind fun v598 => ((jsc L xs (x4 + 2)).bind fun v600 => ((x2).bind fun a602 => ((jlk q596.2 a602).bind fun u604 => ((jd_313 v598 v600 (jmf q596.2)).bind fun q607 => ((some (jhm q596.2 q607.2)).bind fun h609 => ((x2).bind fun a611 => ((jlk h609 a611).bind fun u613 => (if (jw (jd_203 (jmf h609))) = (jw q596.1) then (if (jw q596.1) = 0 then ((x3).bind fun a618 => ((jal h609 a618 0).bind fun v620 => (if (jwl v620) = (jw q607.1) then jd_403_b1528 L xs x1 x2 x3 x4 h609 else none))) else jd_403_b1528 L xs x1 x2 x3 x4 h609) else none))))))))))))
set_option maxRecDepth 100000 in
theorem jk_403_b1463 {L : Nat} {xs : Nat → Int32} {x1 : Option Nat} {x2 : Option Nat} {x3 : Option Nat} {x4 : Int} {h : jH} {o : ((Int × jH) ⊕ jH)} {r : mm_R} (e : jd_403_b1463 L xs x1 x2 x3 x4 h = some o) (K : jsm (fun s => (∀ lv : jL, lv 0 = some (jR (some 1000000)) → lv 1 = some (jR x1) → lv 2 = some (jR x2) → lv 3 = some (jR x3) → lv 4 = some (jI s.1) → ey (mm_xt L xs) 72 403 23 lv [] s.2 r)) (fun x => (∀ lv : jL, ey (mm_xt L xs) 72 403 3175 lv [] x r)) o) : ∀ lv : jL, lv 0 = some (jR (some 1000000)) → lv 1 = some (jR x1) → lv 2 = some (jR x2) → lv 3 = some (jR x3) → lv 4 = some (jI x4) → ey (mm_xt L xs) 72 403 1463 lv [] h r := by
  intro lv f0 f1 f2 f3 f4
  unfold jd_403_b1463 at e
  refine ey_aload_n (cd_403 rfl) f1 ?_
  refine ey_aload_n (cd_403 rfl) f0 ?_
  refine ey_iload (cd_403 rfl) f4 ?_
  refine ey_iconst (cd_403 rfl) ?_
  refine ey_iadd (cd_403 rfl) ?_
  obtain ⟨v592, e593, e⟩ := jbind e
  refine ey_iasc (cd_403 rfl) e593 ?_
  refine ey_aload_n (cd_403 rfl) f0 ?_
  refine ey_iload (cd_403 rfl) f4 ?_
  refine ey_iconst (cd_403 rfl) ?_
  refine ey_iadd (cd_403 rfl) ?_
  obtain ⟨v594, e595, e⟩ := jbind e
  refine ey_iasc (cd_403 rfl) e595 ?_
  refine ey_aload_n (cd_403 rfl) f3 ?_
  obtain ⟨q596, e597, e⟩ := jbind e
  refine ey_cs (s0 := [jR x3, jI v594, jI v592, jR x1]) (s1 := []) (st' := [jI q596.1]) (cd_403 rfl) mt_403 mt_380 rfl (by decide) rfl rfl (jsml_s rfl) rfl (mm_Runs.up (d := 3) (by decide) (ok_380 e597)) ?_
  refine ey_istore (cd_403 rfl) mt_403 rfl ?_
  refine ey_aload_n (cd_403 rfl) f2 ?_
  refine ey_aload_n (cd_403 rfl) f0 ?_
  refine ey_iload (cd_403 rfl) (jup_pi (lv := lv) (j := 4) (v := jI q596.1) (z := x4) f4) ?_
  refine ey_iconst (cd_403 rfl) ?_
  refine ey_iadd (cd_403 rfl) ?_
  obtain ⟨v598, e599, e⟩ := jbind e
  refine ey_iasc (cd_403 rfl) e599 ?_
  refine ey_aload_n (cd_403 rfl) f0 ?_
  refine ey_iload (cd_403 rfl) (jup_pi (lv := lv) (j := 4) (v := jI q596.1) (z := x4) f4) ?_
  refine ey_iconst (cd_403 rfl) ?_
  refine ey_iadd (cd_403 rfl) ?_
  obtain ⟨v600, e601, e⟩ := jbind e
  refine ey_iasc (cd_403 rfl) e601 ?_
  obtain ⟨a602, e603, e⟩ := jbind e
  refine ey_rs (s0 := [jI v600, jI v598, jR x2]) (s1 := [jI v600, jI v598, jR (some a602)]) (by rw [e603]) ?_
  obtain ⟨u604, e605, e⟩ := jbind e
  have w606 := jlk_s e605
  refine ey_rs (s0 := [jI v600, jI v598, jR (some a602)]) (s1 := [jI v600, jI v598, jR (some 76)]) (by rw [w606.1]) ?_
  obtain ⟨q607, e608, e⟩ := jbind e
  refine ey_cv (s0 := [jI v600, jI v598, jR (some 76)]) (s1 := []) (st' := [jI q607.1]) (cd_403 rfl) mt_403 mt_313 rfl rfl rfl (by have w := jhm_is (m := jmf q596.2) w606.2.1; rw [w606.2.2.2] at w; exact w) rfl (jsml_s rfl) rfl (mm_Runs.up (d := 3) (by decide) (by have w := ok_313 (L := L) (xs := xs) (b := q596.2) (m := jmf q596.2) w606.2.1 w606.2.2.1 e608; rw [w606.2.2.2] at w; exact w)) ?_
  obtain ⟨h609, e610, e⟩ := jbind e
  obtain rfl : (jhm q596.2 q607.2) = h609 := Option.some.inj e610
  refine ey_istore (cd_403 rfl) mt_403 rfl ?_
  refine ey_aload_n (cd_403 rfl) f2 ?_
  obtain ⟨a611, e612, e⟩ := jbind e
  refine ey_rs (s0 := [jR x2]) (s1 := [jR (some a611)]) (by rw [e612]) ?_
  obtain ⟨u613, e614, e⟩ := jbind e
  have w615 := jlk_s e614
  refine ey_rs (s0 := [jR (some a611)]) (s1 := [jR (some 76)]) (by rw [w615.1]) ?_
  refine ey_cv (s0 := [jR (some 76)]) (s1 := []) (st' := [jI (jd_203 (jmf h609))]) (cd_403 rfl) mt_403 mt_203 rfl rfl rfl (by have w := jhm_is (m := jmf h609) w615.2.1; rw [w615.2.2.2] at w; exact w) rfl (jsml_s rfl) rfl (mm_Runs.up (d := 1) (by decide) (by have w := ok_203 (L := L) (xs := xs) (b := h609) (m := jmf h609) w615.2.1 w615.2.2.1 ; rw [w615.2.2.2] at w; exact w)) ?_
  refine ey_iload (cd_403 rfl) (jup_pi (lv := (jup lv 5 (jI q596.1))) (j := 5) (v := jI q607.1) (z := q596.1) rfl) ?_
  by_cases q616 : (jw (jd_203 (jmf h609))) = (jw q596.1)
  · rw [if_pos q616] at e
    refine ey_ceq (cd_403 rfl) rfl rfl rfl q616 ?_
    refine ey_iload (cd_403 rfl) (jup_pi (lv := (jup lv 5 (jI q596.1))) (j := 5) (v := jI q607.1) (z := q596.1) rfl) ?_
    by_cases q617 : (jw q596.1) = 0
    · rw [if_pos q617] at e
      refine ey_yne (cd_403 rfl) rfl rfl (fun w => w q617) ?_
      refine ey_aload_n (cd_403 rfl) f3 ?_
      refine ey_iconst (cd_403 rfl) ?_
      obtain ⟨a618, e619, e⟩ := jbind e
      refine ey_rs (s0 := [jI 0, jR x3]) (s1 := [jI 0, jR (some a618)]) (by rw [e619]) ?_
      obtain ⟨v620, e621, e⟩ := jbind e
      refine ey_lald (cd_403 rfl) e621 ?_
      refine ey_iload (cd_403 rfl) rfl ?_
      refine ey_i2l (cd_403 rfl) ?_
      refine ey_lcmp (cd_403 rfl) ?_
      by_cases q622 : (jwl v620) = (jw q607.1)
      · rw [if_pos q622] at e
        refine ey_zeq (cd_403 rfl) rfl rfl ((jlc_eq rfl (jwl_jw _)).mpr q622) ?_
        exact jk_403_b1528 e K (jup (jup lv 5 (jI q596.1)) 6 (jI q607.1)) f0 f1 f2 f3 (jup_o rfl (jup_pi (lv := lv) (j := 4) (v := jI q596.1) (z := x4) f4))
      · rw [if_neg q622] at e
        refine ey_yeq (cd_403 rfl) rfl rfl (fun w => q622 ((jlc_eq rfl (jwl_jw _)).mp w)) ?_
        cases e
    · rw [if_neg q617] at e
      refine ey_zne (cd_403 rfl) rfl rfl q617 ?_
      exact jk_403_b1528 e K (jup (jup lv 5 (jI q596.1)) 6 (jI q607.1)) f0 f1 f2 f3 (jup_o rfl (jup_pi (lv := lv) (j := 4) (v := jI q596.1) (z := x4) f4))
  · rw [if_neg q616] at e
    refine ey_neq (cd_403 rfl) rfl rfl rfl q616 ?_
    cases e
def jd_403_b1608 (L : Nat) (xs : Nat → Int32) (x1 : Option Nat) (x2 : Option Nat) (x3 : Option Nat) (x4 : Int) (h : jH) : Option ((Int × jH) ⊕ jH) :=
  jd_403_b3169 L xs x1 x2 x3 x4 h
set_option maxRecDepth 100000 in
theorem jk_403_b1608 {L : Nat} {xs : Nat → Int32} {x1 : Option Nat} {x2 : Option Nat} {x3 : Option Nat} {x4 : Int} {h : jH} {o : ((Int × jH) ⊕ jH)} {r : mm_R} (e : jd_403_b1608 L xs x1 x2 x3 x4 h = some o) (K : jsm (fun s => (∀ lv : jL, lv 0 = some (jR (some 1000000)) → lv 1 = some (jR x1) → lv 2 = some (jR x2) → lv 3 = some (jR x3) → lv 4 = some (jI s.1) → ey (mm_xt L xs) 72 403 23 lv [] s.2 r)) (fun x => (∀ lv : jL, ey (mm_xt L xs) 72 403 3175 lv [] x r)) o) : ∀ lv : jL, lv 0 = some (jR (some 1000000)) → lv 1 = some (jR x1) → lv 2 = some (jR x2) → lv 3 = some (jR x3) → lv 4 = some (jI x4) → ey (mm_xt L xs) 72 403 1608 lv [] h r := by
  intro lv f0 f1 f2 f3 f4
  unfold jd_403_b1608 at e
  refine ey_goto (cd_403 rfl) rfl ?_
  exact jk_403_b3169 e K lv f0 f1 f2 f3 f4
def jd_403_b1531 (L : Nat) (xs : Nat → Int32) (x1 : Option Nat) (x2 : Option Nat) (x3 : Option Nat) (x4 : Int) (h : jH) : Option ((Int × jH) ⊕ jH) :=
  ((jsc L xs (x4 + 1)).bind fun v624 => ((jsc L xs (x4 + 2)).bind fun v626 => ((jsc L xs (x4 + 3)).bind fun v628 => ((jd_381 x1 v624 v626 v628 x3 h).bind fun q630 => ((jsc L xs (x4 + 1)).bind fun v632 => ((jsc L xs (x4 + 2)).bind fun v634 => ((jsc L xs (x4 + 3)).bind fun v636 => ((x2).bind fun a638 => ((jlk q630.2 a638).bind fun u640 => ((jd_315 v632 v634 v636 (jmf q630.2)).bind fun q643 => ((some (jhm q630.2 q643.2)).bind fun h645 => ((x2).bind fun a647 => ((jlk h645 a647).bind fun u649 => (if (jw (jd_203 (jmf h645))) = (jw q630.1) then (if (jw q630.1) = 0 then ((x3).bind fun a654 => ((jal h645 a654 0).bind fun v656 => (if (jwl v656) = (jw q643.1) then jd_403_b1608 L xs x1 x2 x3 x4 h645 else none))) else jd_403_b1608 L xs x1 x2 x3 x4 h645) else none))))))))))))))
set_option maxRecDepth 100000 in
theorem jk_403_b1531 {L : Nat} {xs : Nat → Int32} {x1 : Option Nat} {x2 : Option Nat} {x3 : Option Nat} {x4 : Int} {h : jH} {o : ((Int × jH) ⊕ jH)} {r : mm_R} (e : jd_403_b1531 L xs x1 x2 x3 x4 h = some o) (K : jsm (fun s => (∀ lv : jL, lv 0 = some (jR (some 1000000)) → lv 1 = some (jR x1) → lv 2 = some (jR x2) → lv 3 = some (jR x3) → lv 4 = some (jI s.1) → ey (mm_xt L xs) 72 403 23 lv [] s.2 r)) (fun x => (∀ lv : jL, ey (mm_xt L xs) 72 403 3175 lv [] x r)) o) : ∀ lv : jL, lv 0 = some (jR (some 1000000)) → lv 1 = some (jR x1) → lv 2 = some (jR x2) → lv 3 = some (jR x3) → lv 4 = some (jI x4) → ey (mm_xt L xs) 72 403 1531 lv [] h r := by
  intro lv f0 f1 f2 f3 f4
  unfold jd_403_b1531 at e
  refine ey_aload_n (cd_403 rfl) f1 ?_
  refine ey_aload_n (cd_403 rfl) f0 ?_
  refine ey_iload (cd_403 rfl) f4 ?_
  refine ey_iconst (cd_403 rfl) ?_
  refine ey_iadd (cd_403 rfl) ?_
  obtain ⟨v624, e625, e⟩ := jbind e
  refine ey_iasc (cd_403 rfl) e625 ?_
  refine ey_aload_n (cd_403 rfl) f0 ?_
  refine ey_iload (cd_403 rfl) f4 ?_
  refine ey_iconst (cd_403 rfl) ?_
  refine ey_iadd (cd_403 rfl) ?_
  obtain ⟨v626, e627, e⟩ := jbind e
  refine ey_iasc (cd_403 rfl) e627 ?_
  refine ey_aload_n (cd_403 rfl) f0 ?_
  refine ey_iload (cd_403 rfl) f4 ?_
  refine ey_iconst (cd_403 rfl) ?_
  refine ey_iadd (cd_403 rfl) ?_
  obtain ⟨v628, e629, e⟩ := jbind e
  refine ey_iasc (cd_403 rfl) e629 ?_
  refine ey_aload_n (cd_403 rfl) f3 ?_
  obtain ⟨q630, e631, e⟩ := jbind e
  refine ey_cs (s0 := [jR x3, jI v628, jI v626, jI v624, jR x1]) (s1 := []) (st' := [jI q630.1]) (cd_403 rfl) mt_403 mt_381 rfl (by decide) rfl rfl (jsml_s rfl) rfl (mm_Runs.up (d := 3) (by decide) (ok_381 e631)) ?_
  refine ey_istore (cd_403 rfl) mt_403 rfl ?_
  refine ey_aload_n (cd_403 rfl) f2 ?_
  refine ey_aload_n (cd_403 rfl) f0 ?_
  refine ey_iload (cd_403 rfl) (jup_pi (lv := lv) (j := 4) (v := jI q630.1) (z := x4) f4) ?_
  refine ey_iconst (cd_403 rfl) ?_
  refine ey_iadd (cd_403 rfl) ?_
  obtain ⟨v632, e633, e⟩ := jbind e
  refine ey_iasc (cd_403 rfl) e633 ?_
  refine ey_aload_n (cd_403 rfl) f0 ?_
  refine ey_iload (cd_403 rfl) (jup_pi (lv := lv) (j := 4) (v := jI q630.1) (z := x4) f4) ?_
  refine ey_iconst (cd_403 rfl) ?_
  refine ey_iadd (cd_403 rfl) ?_
  obtain ⟨v634, e635, e⟩ := jbind e
  refine ey_iasc (cd_403 rfl) e635 ?_
  refine ey_aload_n (cd_403 rfl) f0 ?_
  refine ey_iload (cd_403 rfl) (jup_pi (lv := lv) (j := 4) (v := jI q630.1) (z := x4) f4) ?_
  refine ey_iconst (cd_403 rfl) ?_
  refine ey_iadd (cd_403 rfl) ?_
  obtain ⟨v636, e637, e⟩ := jbind e
  refine ey_iasc (cd_403 rfl) e637 ?_
  obtain ⟨a638, e639, e⟩ := jbind e
  refine ey_rs (s0 := [jI v636, jI v634, jI v632, jR x2]) (s1 := [jI v636, jI v634, jI v632, jR (some a638)]) (by rw [e639]) ?_
  obtain ⟨u640, e641, e⟩ := jbind e
  have w642 := jlk_s e641
  refine ey_rs (s0 := [jI v636, jI v634, jI v632, jR (some a638)]) (s1 := [jI v636, jI v634, jI v632, jR (some 76)]) (by rw [w642.1]) ?_
  obtain ⟨q643, e644, e⟩ := jbind e
  refine ey_cv (s0 := [jI v636, jI v634, jI v632, jR (some 76)]) (s1 := []) (st' := [jI q643.1]) (cd_403 rfl) mt_403 mt_315 rfl rfl rfl (by have w := jhm_is (m := jmf q630.2) w642.2.1; rw [w642.2.2.2] at w; exact w) rfl (jsml_s rfl) rfl (mm_Runs.up (d := 4) (by decide) (by have w := ok_315 (L := L) (xs := xs) (b := q630.2) (m := jmf q630.2) w642.2.1 w642.2.2.1 e644; rw [w642.2.2.2] at w; exact w)) ?_
  obtain ⟨h645, e646, e⟩ := jbind e
  obtain rfl : (jhm q630.2 q643.2) = h645 := Option.some.inj e646
  refine ey_istore (cd_403 rfl) mt_403 rfl ?_
  refine ey_aload_n (cd_403 rfl) f2 ?_
  obtain ⟨a647, e648, e⟩ := jbind e
  refine ey_rs (s0 := [jR x2]) (s1 := [jR (some a647)]) (by rw [e648]) ?_
  obtain ⟨u649, e650, e⟩ := jbind e
  have w651 := jlk_s e650
  refine ey_rs (s0 := [jR (some a647)]) (s1 := [jR (some 76)]) (by rw [w651.1]) ?_
  refine ey_cv (s0 := [jR (some 76)]) (s1 := []) (st' := [jI (jd_203 (jmf h645))]) (cd_403 rfl) mt_403 mt_203 rfl rfl rfl (by have w := jhm_is (m := jmf h645) w651.2.1; rw [w651.2.2.2] at w; exact w) rfl (jsml_s rfl) rfl (mm_Runs.up (d := 1) (by decide) (by have w := ok_203 (L := L) (xs := xs) (b := h645) (m := jmf h645) w651.2.1 w651.2.2.1 ; rw [w651.2.2.2] at w; exact w)) ?_
  refine ey_iload (cd_403 rfl) (jup_pi (lv := (jup lv 5 (jI q630.1))) (j := 5) (v := jI q643.1) (z := q630.1) rfl) ?_
  by_cases q652 : (jw (jd_203 (jmf h645))) = (jw q630.1)
  · rw [if_pos q652] at e
    refine ey_ceq (cd_403 rfl) rfl rfl rfl q652 ?_
    refine ey_iload (cd_403 rfl) (jup_pi (lv := (jup lv 5 (jI q630.1))) (j := 5) (v := jI q643.1) (z := q630.1) rfl) ?_
    by_cases q653 : (jw q630.1) = 0
    · rw [if_pos q653] at e
      refine ey_yne (cd_403 rfl) rfl rfl (fun w => w q653) ?_
      refine ey_aload_n (cd_403 rfl) f3 ?_
      refine ey_iconst (cd_403 rfl) ?_
      obtain ⟨a654, e655, e⟩ := jbind e
      refine ey_rs (s0 := [jI 0, jR x3]) (s1 := [jI 0, jR (some a654)]) (by rw [e655]) ?_
      obtain ⟨v656, e657, e⟩ := jbind e
      refine ey_lald (cd_403 rfl) e657 ?_
      refine ey_iload (cd_403 rfl) rfl ?_
      refine ey_i2l (cd_403 rfl) ?_
      refine ey_lcmp (cd_403 rfl) ?_
      by_cases q658 : (jwl v656) = (jw q643.1)
      · rw [if_pos q658] at e
        refine ey_zeq (cd_403 rfl) rfl rfl ((jlc_eq rfl (jwl_jw _)).mpr q658) ?_
        exact jk_403_b1608 e K (jup (jup lv 5 (jI q630.1)) 6 (jI q643.1)) f0 f1 f2 f3 (jup_o rfl (jup_pi (lv := lv) (j := 4) (v := jI q630.1) (z := x4) f4))
      · rw [if_neg q658] at e
        refine ey_yeq (cd_403 rfl) rfl rfl (fun w => q658 ((jlc_eq rfl (jwl_jw _)).mp w)) ?_
        cases e
    · rw [if_neg q653] at e
      refine ey_zne (cd_403 rfl) rfl rfl q653 ?_
      exact jk_403_b1608 e K (jup (jup lv 5 (jI q630.1)) 6 (jI q643.1)) f0 f1 f2 f3 (jup_o rfl (jup_pi (lv := lv) (j := 4) (v := jI q630.1) (z := x4) f4))
  · rw [if_neg q652] at e
    refine ey_neq (cd_403 rfl) rfl rfl rfl q652 ?_
    cases e
def jd_403_b1700 (L : Nat) (xs : Nat → Int32) (x1 : Option Nat) (x2 : Option Nat) (x3 : Option Nat) (x4 : Int) (h : jH) : Option ((Int × jH) ⊕ jH) :=
  jd_403_b3169 L xs x1 x2 x3 x4 h
set_option maxRecDepth 100000 in
theorem jk_403_b1700 {L : Nat} {xs : Nat → Int32} {x1 : Option Nat} {x2 : Option Nat} {x3 : Option Nat} {x4 : Int} {h : jH} {o : ((Int × jH) ⊕ jH)} {r : mm_R} (e : jd_403_b1700 L xs x1 x2 x3 x4 h = some o) (K : jsm (fun s => (∀ lv : jL, lv 0 = some (jR (some 1000000)) → lv 1 = some (jR x1) → lv 2 = some (jR x2) → lv 3 = some (jR x3) → lv 4 = some (jI s.1) → ey (mm_xt L xs) 72 403 23 lv [] s.2 r)) (fun x => (∀ lv : jL, ey (mm_xt L xs) 72 403 3175 lv [] x r)) o) : ∀ lv : jL, lv 0 = some (jR (some 1000000)) → lv 1 = some (jR x1) → lv 2 = some (jR x2) → lv 3 = some (jR x3) → lv 4 = some (jI x4) → ey (mm_xt L xs) 72 403 1700 lv [] h r := by
  intro lv f0 f1 f2 f3 f4
  unfold jd_403_b1700 at e
  refine ey_goto (cd_403 rfl) rfl ?_
  exact jk_403_b3169 e K lv f0 f1 f2 f3 f4
def jd_403_b1611 (L : Nat) (xs : Nat → Int32) (x1 : Option Nat) (x2 : Option Nat) (x3 : Option Nat) (x4 : Int) (h : jH) : Option ((Int × jH) ⊕ jH) :=
  ((jsc L xs (x4 + 1)).bind fun v660 => ((jsc L xs (x4 + 2)).bind fun v662 => ((jsc L xs (x4 + 3)).bind fun v664 => ((jsc L xs (x4 + 4)).bind fun v666 => ((jd_382 x1 v660 v662 v664 v666 x3 h).bind fun q668 => ((jsc L xs (x4 + 1)).bind fun v670 => ((jsc L xs (x4 + 2)).bind fun v672 => ((jsc L xs (x4 + 3)).bind fun v674 => ((jsc L xs (x4 + 4)).bind fun v676 => ((x2).bind fun a678 => ((jlk q668.2 a678).bind fun u680 => ((jd_317 v670 v672 v674 v676 (jmf q668.2)).bind fun q683 => ((some (jhm q668.2 q683.2)).bind fun h685 => ((x2).bind fun a687 => ((jlk h685 a687).bind fun u689 => (if (jw (jd_203 (jmf h685))) = (jw q668.1) then (if (jw q668.1) = 0 then ((x3).bind fun a694 => ((jal h685 a694 0).bind fun v696 => (if (jwl v696) = (jw q683.1) then jd_403_b1700 L xs x1 x2 x3 x4 h685 else none))) else jd_403_b1700 L xs x1 x2 x3 x4 h685) else none))))))))))))))))
set_option maxRecDepth 100000 in
theorem jk_403_b1611 {L : Nat} {xs : Nat → Int32} {x1 : Option Nat} {x2 : Option Nat} {x3 : Option Nat} {x4 : Int} {h : jH} {o : ((Int × jH) ⊕ jH)} {r : mm_R} (e : jd_403_b1611 L xs x1 x2 x3 x4 h = some o) (K : jsm (fun s => (∀ lv : jL, lv 0 = some (jR (some 1000000)) → lv 1 = some (jR x1) → lv 2 = some (jR x2) → lv 3 = some (jR x3) → lv 4 = some (jI s.1) → ey (mm_xt L xs) 72 403 23 lv [] s.2 r)) (fun x => (∀ lv : jL, ey (mm_xt L xs) 72 403 3175 lv [] x r)) o) : ∀ lv : jL, lv 0 = some (jR (some 1000000)) → lv 1 = some (jR x1) → lv 2 = some (jR x2) → lv 3 = some (jR x3) → lv 4 = some (jI x4) → ey (mm_xt L xs) 72 403 1611 lv [] h r := by
  intro lv f0 f1 f2 f3 f4
  unfold jd_403_b1611 at e
  refine ey_aload_n (cd_403 rfl) f1 ?_
  refine ey_aload_n (cd_403 rfl) f0 ?_
  refine ey_iload (cd_403 rfl) f4 ?_
  refine ey_iconst (cd_403 rfl) ?_
  refine ey_iadd (cd_403 rfl) ?_
  obtain ⟨v660, e661, e⟩ := jbind e
  refine ey_iasc (cd_403 rfl) e661 ?_
  refine ey_aload_n (cd_403 rfl) f0 ?_
  refine ey_iload (cd_403 rfl) f4 ?_
  refine ey_iconst (cd_403 rfl) ?_
  refine ey_iadd (cd_403 rfl) ?_
  obtain ⟨v662, e663, e⟩ := jbind e
  refine ey_iasc (cd_403 rfl) e663 ?_
  refine ey_aload_n (cd_403 rfl) f0 ?_
  refine ey_iload (cd_403 rfl) f4 ?_
  refine ey_iconst (cd_403 rfl) ?_
  refine ey_iadd (cd_403 rfl) ?_
  obtain ⟨v664, e665, e⟩ := jbind e
  refine ey_iasc (cd_403 rfl) e665 ?_
  refine ey_aload_n (cd_403 rfl) f0 ?_
  refine ey_iload (cd_403 rfl) f4 ?_
  refine ey_iconst (cd_403 rfl) ?_
  refine ey_iadd (cd_403 rfl) ?_
  obtain ⟨v666, e667, e⟩ := jbind e
  refine ey_iasc (cd_403 rfl) e667 ?_
  refine ey_aload_n (cd_403 rfl) f3 ?_
  obtain ⟨q668, e669, e⟩ := jbind e
  refine ey_cs (s0 := [jR x3, jI v666, jI v664, jI v662, jI v660, jR x1]) (s1 := []) (st' := [jI q668.1]) (cd_403 rfl) mt_403 mt_382 rfl (by decide) rfl rfl (jsml_s rfl) rfl (mm_Runs.up (d := 4) (by decide) (ok_382 e669)) ?_
  refine ey_istore (cd_403 rfl) mt_403 rfl ?_
  refine ey_aload_n (cd_403 rfl) f2 ?_
  refine ey_aload_n (cd_403 rfl) f0 ?_
  refine ey_iload (cd_403 rfl) (jup_pi (lv := lv) (j := 4) (v := jI q668.1) (z := x4) f4) ?_
  refine ey_iconst (cd_403 rfl) ?_
  refine ey_iadd (cd_403 rfl) ?_
  obtain ⟨v670, e671, e⟩ := jbind e
  refine ey_iasc (cd_403 rfl) e671 ?_
  refine ey_aload_n (cd_403 rfl) f0 ?_
  refine ey_iload (cd_403 rfl) (jup_pi (lv := lv) (j := 4) (v := jI q668.1) (z := x4) f4) ?_
  refine ey_iconst (cd_403 rfl) ?_
  refine ey_iadd (cd_403 rfl) ?_
  obtain ⟨v672, e673, e⟩ := jbind e
  refine ey_iasc (cd_403 rfl) e673 ?_
  refine ey_aload_n (cd_403 rfl) f0 ?_
  refine ey_iload (cd_403 rfl) (jup_pi (lv := lv) (j := 4) (v := jI q668.1) (z := x4) f4) ?_
  refine ey_iconst (cd_403 rfl) ?_
  refine ey_iadd (cd_403 rfl) ?_
  obtain ⟨v674, e675, e⟩ := jbind e
  refine ey_iasc (cd_403 rfl) e675 ?_
  refine ey_aload_n (cd_403 rfl) f0 ?_
  refine ey_iload (cd_403 rfl) (jup_pi (lv := lv) (j := 4) (v := jI q668.1) (z := x4) f4) ?_
  refine ey_iconst (cd_403 rfl) ?_
  refine ey_iadd (cd_403 rfl) ?_
  obtain ⟨v676, e677, e⟩ := jbind e
  refine ey_iasc (cd_403 rfl) e677 ?_
  obtain ⟨a678, e679, e⟩ := jbind e
  refine ey_rs (s0 := [jI v676, jI v674, jI v672, jI v670, jR x2]) (s1 := [jI v676, jI v674, jI v672, jI v670, jR (some a678)]) (by rw [e679]) ?_
  obtain ⟨u680, e681, e⟩ := jbind e
  have w682 := jlk_s e681
  refine ey_rs (s0 := [jI v676, jI v674, jI v672, jI v670, jR (some a678)]) (s1 := [jI v676, jI v674, jI v672, jI v670, jR (some 76)]) (by rw [w682.1]) ?_
  obtain ⟨q683, e684, e⟩ := jbind e
  refine ey_cv (s0 := [jI v676, jI v674, jI v672, jI v670, jR (some 76)]) (s1 := []) (st' := [jI q683.1]) (cd_403 rfl) mt_403 mt_317 rfl rfl rfl (by have w := jhm_is (m := jmf q668.2) w682.2.1; rw [w682.2.2.2] at w; exact w) rfl (jsml_s rfl) rfl (mm_Runs.up (d := 4) (by decide) (by have w := ok_317 (L := L) (xs := xs) (b := q668.2) (m := jmf q668.2) w682.2.1 w682.2.2.1 e684; rw [w682.2.2.2] at w; exact w)) ?_
  obtain ⟨h685, e686, e⟩ := jbind e
  obtain rfl : (jhm q668.2 q683.2) = h685 := Option.some.inj e686
  refine ey_istore (cd_403 rfl) mt_403 rfl ?_
  refine ey_aload_n (cd_403 rfl) f2 ?_
  obtain ⟨a687, e688, e⟩ := jbind e
  refine ey_rs (s0 := [jR x2]) (s1 := [jR (some a687)]) (by rw [e688]) ?_
  obtain ⟨u689, e690, e⟩ := jbind e
  have w691 := jlk_s e690
  refine ey_rs (s0 := [jR (some a687)]) (s1 := [jR (some 76)]) (by rw [w691.1]) ?_
  refine ey_cv (s0 := [jR (some 76)]) (s1 := []) (st' := [jI (jd_203 (jmf h685))]) (cd_403 rfl) mt_403 mt_203 rfl rfl rfl (by have w := jhm_is (m := jmf h685) w691.2.1; rw [w691.2.2.2] at w; exact w) rfl (jsml_s rfl) rfl (mm_Runs.up (d := 1) (by decide) (by have w := ok_203 (L := L) (xs := xs) (b := h685) (m := jmf h685) w691.2.1 w691.2.2.1 ; rw [w691.2.2.2] at w; exact w)) ?_
  refine ey_iload (cd_403 rfl) (jup_pi (lv := (jup lv 5 (jI q668.1))) (j := 5) (v := jI q683.1) (z := q668.1) rfl) ?_
  by_cases q692 : (jw (jd_203 (jmf h685))) = (jw q668.1)
  · rw [if_pos q692] at e
    refine ey_ceq (cd_403 rfl) rfl rfl rfl q692 ?_
    refine ey_iload (cd_403 rfl) (jup_pi (lv := (jup lv 5 (jI q668.1))) (j := 5) (v := jI q683.1) (z := q668.1) rfl) ?_
    by_cases q693 : (jw q668.1) = 0
    · rw [if_pos q693] at e
      refine ey_yne (cd_403 rfl) rfl rfl (fun w => w q693) ?_
      refine ey_aload_n (cd_403 rfl) f3 ?_
      refine ey_iconst (cd_403 rfl) ?_
      obtain ⟨a694, e695, e⟩ := jbind e
      refine ey_rs (s0 := [jI 0, jR x3]) (s1 := [jI 0, jR (some a694)]) (by rw [e695]) ?_
      obtain ⟨v696, e697, e⟩ := jbind e
      refine ey_lald (cd_403 rfl) e697 ?_
      refine ey_iload (cd_403 rfl) rfl ?_
      refine ey_i2l (cd_403 rfl) ?_
      refine ey_lcmp (cd_403 rfl) ?_
      by_cases q698 : (jwl v696) = (jw q683.1)
      · rw [if_pos q698] at e
        refine ey_zeq (cd_403 rfl) rfl rfl ((jlc_eq rfl (jwl_jw _)).mpr q698) ?_
        exact jk_403_b1700 e K (jup (jup lv 5 (jI q668.1)) 6 (jI q683.1)) f0 f1 f2 f3 (jup_o rfl (jup_pi (lv := lv) (j := 4) (v := jI q668.1) (z := x4) f4))
      · rw [if_neg q698] at e
        refine ey_yeq (cd_403 rfl) rfl rfl (fun w => q698 ((jlc_eq rfl (jwl_jw _)).mp w)) ?_
        cases e
    · rw [if_neg q693] at e
      refine ey_zne (cd_403 rfl) rfl rfl q693 ?_
      exact jk_403_b1700 e K (jup (jup lv 5 (jI q668.1)) 6 (jI q683.1)) f0 f1 f2 f3 (jup_o rfl (jup_pi (lv := lv) (j := 4) (v := jI q668.1) (z := x4) f4))
  · rw [if_neg q692] at e
    refine ey_neq (cd_403 rfl) rfl rfl rfl q692 ?_
    cases e
def jd_403_b1804 (L : Nat) (xs : Nat → Int32) (x1 : Option Nat) (x2 : Option Nat) (x3 : Option Nat) (x4 : Int) (h : jH) : Option ((Int × jH) ⊕ jH) :=
  jd_403_b3169 L xs x1 x2 x3 x4 h
set_option maxRecDepth 100000 in
theorem jk_403_b1804 {L : Nat} {xs : Nat → Int32} {x1 : Option Nat} {x2 : Option Nat} {x3 : Option Nat} {x4 : Int} {h : jH} {o : ((Int × jH) ⊕ jH)} {r : mm_R} (e : jd_403_b1804 L xs x1 x2 x3 x4 h = some o) (K : jsm (fun s => (∀ lv : jL, lv 0 = some (jR (some 1000000)) → lv 1 = some (jR x1) → lv 2 = some (jR x2) → lv 3 = some (jR x3) → lv 4 = some (jI s.1) → ey (mm_xt L xs) 72 403 23 lv [] s.2 r)) (fun x => (∀ lv : jL, ey (mm_xt L xs) 72 403 3175 lv [] x r)) o) : ∀ lv : jL, lv 0 = some (jR (some 1000000)) → lv 1 = some (jR x1) → lv 2 = some (jR x2) → lv 3 = some (jR x3) → lv 4 = some (jI x4) → ey (mm_xt L xs) 72 403 1804 lv [] h r := by
  intro lv f0 f1 f2 f3 f4
  unfold jd_403_b1804 at e
  refine ey_goto (cd_403 rfl) rfl ?_
  exact jk_403_b3169 e K lv f0 f1 f2 f3 f4
def jd_403_b1703 (L : Nat) (xs : Nat → Int32) (x1 : Option Nat) (x2 : Option Nat) (x3 : Option Nat) (x4 : Int) (h : jH) : Option ((Int × jH) ⊕ jH) :=
  ((jsc L xs (x4 + 1)).bind fun v700 => ((jsc L xs (x4 + 2)).bind fun v702 => ((jsc L xs (x4 + 3)).bind fun v704 => ((jsc L xs (x4 + 4)).bind fun v706 => ((jsc L xs (x4 + 5)).bind fun v708 => ((jd_383 x1 v700 v702 v704 v706 v708 x3 h).bind fun q710 => ((jsc L xs (x4 + 1)).bind fun v712 => ((jsc L xs (x4 + 2)).bind fun v714 => ((jsc L xs (x4 + 3)).bind fun v716 => ((jsc L xs (x4 + 4)).bind fun v718 => ((jsc L xs (x4 + 5)).bind fun v720 => ((x2).bind fun a722 => ((jlk q710.2 a722).bind fun u724 => ((jd_321 v712 v714 v716 v718 v720 (jmf q710.2)).bind fun q727 => ((some (jhm q710.2 q727.2)).bind fun h729 => ((x2).bind fun a731 => ((jlk h729 a731).bind fun u733 => (if (jw (jd_203 (jmf h729))) = (jw q710.1) then (if (jw q710.1) = 0 then ((x3).bind fun a738 => ((jal h729 a738 0).bind fun v740 => (if (jwl v740) = (jw q727.1) then jd_403_b1804 L xs x1 x2 x3 x4 h729 else none))) else jd_403_b1804 L xs x1 x2 x3 x4 h729) else none))))))))))))))))))
set_option maxRecDepth 100000 in
theorem jk_403_b1703 {L : Nat} {xs : Nat → Int32} {x1 : Option Nat} {x2 : Option Nat} {x3 : Option Nat} {x4 : Int} {h : jH} {o : ((Int × jH) ⊕ jH)} {r : mm_R} (e : jd_403_b1703 L xs x1 x2 x3 x4 h = some o) (K : jsm (fun s => (∀ lv : jL, lv 0 = some (jR (some 1000000)) → lv 1 = some (jR x1) → lv 2 = some (jR x2) → lv 3 = some (jR x3) → lv 4 = some (jI s.1) → ey (mm_xt L xs) 72 403 23 lv [] s.2 r)) (fun x => (∀ lv : jL, ey (mm_xt L xs) 72 403 3175 lv [] x r)) o) : ∀ lv : jL, lv 0 = some (jR (some 1000000)) → lv 1 = some (jR x1) → lv 2 = some (jR x2) → lv 3 = some (jR x3) → lv 4 = some (jI x4) → ey (mm_xt L xs) 72 403 1703 lv [] h r := by
  intro lv f0 f1 f2 f3 f4
  unfold jd_403_b1703 at e
  refine ey_aload_n (cd_403 rfl) f1 ?_
  refine ey_aload_n (cd_403 rfl) f0 ?_
  refine ey_iload (cd_403 rfl) f4 ?_
  refine ey_iconst (cd_403 rfl) ?_
  refine ey_iadd (cd_403 rfl) ?_
  obtain ⟨v700, e701, e⟩ := jbind e
  refine ey_iasc (cd_403 rfl) e701 ?_
  refine ey_aload_n (cd_403 rfl) f0 ?_
  refine ey_iload (cd_403 rfl) f4 ?_
  refine ey_iconst (cd_403 rfl) ?_
  refine ey_iadd (cd_403 rfl) ?_
  obtain ⟨v702, e703, e⟩ := jbind e
  refine ey_iasc (cd_403 rfl) e703 ?_
  refine ey_aload_n (cd_403 rfl) f0 ?_
  refine ey_iload (cd_403 rfl) f4 ?_
  refine ey_iconst (cd_403 rfl) ?_
  refine ey_iadd (cd_403 rfl) ?_
  obtain ⟨v704, e705, e⟩ := jbind e
  refine ey_iasc (cd_403 rfl) e705 ?_
  refine ey_aload_n (cd_403 rfl) f0 ?_
  refine ey_iload (cd_403 rfl) f4 ?_
  refine ey_iconst (cd_403 rfl) ?_
  refine ey_iadd (cd_403 rfl) ?_
  obtain ⟨v706, e707, e⟩ := jbind e
  refine ey_iasc (cd_403 rfl) e707 ?_
  refine ey_aload_n (cd_403 rfl) f0 ?_
  refine ey_iload (cd_403 rfl) f4 ?_
  refine ey_iconst (cd_403 rfl) ?_
  refine ey_iadd (cd_403 rfl) ?_
  obtain ⟨v708, e709, e⟩ := jbind e
  refine ey_iasc (cd_403 rfl) e709 ?_
  refine ey_aload_n (cd_403 rfl) f3 ?_
  obtain ⟨q710, e711, e⟩ := jbind e
  refine ey_cs (s0 := [jR x3, jI v708, jI v706, jI v704, jI v702, jI v700, jR x1]) (s1 := []) (st' := [jI q710.1]) (cd_403 rfl) mt_403 mt_383 rfl (by decide) rfl rfl (jsml_s rfl) rfl (mm_Runs.up (d := 4) (by decide) (ok_383 e711)) ?_
  refine ey_istore (cd_403 rfl) mt_403 rfl ?_
  refine ey_aload_n (cd_403 rfl) f2 ?_
  refine ey_aload_n (cd_403 rfl) f0 ?_
  refine ey_iload (cd_403 rfl) (jup_pi (lv := lv) (j := 4) (v := jI q710.1) (z := x4) f4) ?_
  refine ey_iconst (cd_403 rfl) ?_
  refine ey_iadd (cd_403 rfl) ?_
  obtain ⟨v712, e713, e⟩ := jbind e
  refine ey_iasc (cd_403 rfl) e713 ?_
  refine ey_aload_n (cd_403 rfl) f0 ?_
  refine ey_iload (cd_403 rfl) (jup_pi (lv := lv) (j := 4) (v := jI q710.1) (z := x4) f4) ?_
  refine ey_iconst (cd_403 rfl) ?_
  refine ey_iadd (cd_403 rfl) ?_
  obtain ⟨v714, e715, e⟩ := jbind e
  refine ey_iasc (cd_403 rfl) e715 ?_
  refine ey_aload_n (cd_403 rfl) f0 ?_
  refine ey_iload (cd_403 rfl) (jup_pi (lv := lv) (j := 4) (v := jI q710.1) (z := x4) f4) ?_
  refine ey_iconst (cd_403 rfl) ?_
  refine ey_iadd (cd_403 rfl) ?_
  obtain ⟨v716, e717, e⟩ := jbind e
  refine ey_iasc (cd_403 rfl) e717 ?_
  refine ey_aload_n (cd_403 rfl) f0 ?_
  refine ey_iload (cd_403 rfl) (jup_pi (lv := lv) (j := 4) (v := jI q710.1) (z := x4) f4) ?_
  refine ey_iconst (cd_403 rfl) ?_
  refine ey_iadd (cd_403 rfl) ?_
  obtain ⟨v718, e719, e⟩ := jbind e
  refine ey_iasc (cd_403 rfl) e719 ?_
  refine ey_aload_n (cd_403 rfl) f0 ?_
  refine ey_iload (cd_403 rfl) (jup_pi (lv := lv) (j := 4) (v := jI q710.1) (z := x4) f4) ?_
  refine ey_iconst (cd_403 rfl) ?_
  refine ey_iadd (cd_403 rfl) ?_
  obtain ⟨v720, e721, e⟩ := jbind e
  refine ey_iasc (cd_403 rfl) e721 ?_
  obtain ⟨a722, e723, e⟩ := jbind e
  refine ey_rs (s0 := [jI v720, jI v718, jI v716, jI v714, jI v712, jR x2]) (s1 := [jI v720, jI v718, jI v716, jI v714, jI v712, jR (some a722)]) (by rw [e723]) ?_
  obtain ⟨u724, e725, e⟩ := jbind e
  have w726 := jlk_s e725
  refine ey_rs (s0 := [jI v720, jI v718, jI v716, jI v714, jI v712, jR (some a722)]) (s1 := [jI v720, jI v718, jI v716, jI v714, jI v712, jR (some 76)]) (by rw [w726.1]) ?_
  obtain ⟨q727, e728, e⟩ := jbind e
  refine ey_cv (s0 := [jI v720, jI v718, jI v716, jI v714, jI v712, jR (some 76)]) (s1 := []) (st' := [jI q727.1]) (cd_403 rfl) mt_403 mt_321 rfl rfl rfl (by have w := jhm_is (m := jmf q710.2) w726.2.1; rw [w726.2.2.2] at w; exact w) rfl (jsml_s rfl) rfl (mm_Runs.up (d := 5) (by decide) (by have w := ok_321 (L := L) (xs := xs) (b := q710.2) (m := jmf q710.2) w726.2.1 w726.2.2.1 e728; rw [w726.2.2.2] at w; exact w)) ?_
  obtain ⟨h729, e730, e⟩ := jbind e
  obtain rfl : (jhm q710.2 q727.2) = h729 := Option.some.inj e730
  refine ey_istore (cd_403 rfl) mt_403 rfl ?_
  refine ey_aload_n (cd_403 rfl) f2 ?_
  obtain ⟨a731, e732, e⟩ := jbind e
  refine ey_rs (s0 := [jR x2]) (s1 := [jR (some a731)]) (by rw [e732]) ?_
  obtain ⟨u733, e734, e⟩ := jbind e
  have w735 := jlk_s e734
  refine ey_rs (s0 := [jR (some a731)]) (s1 := [jR (some 76)]) (by rw [w735.1]) ?_
  refine ey_cv (s0 := [jR (some 76)]) (s1 := []) (st' := [jI (jd_203 (jmf h729))]) (cd_403 rfl) mt_403 mt_203 rfl rfl rfl (by have w := jhm_is (m := jmf h729) w735.2.1; rw [w735.2.2.2] at w; exact w) rfl (jsml_s rfl) rfl (mm_Runs.up (d := 1) (by decide) (by have w := ok_203 (L := L) (xs := xs) (b := h729) (m := jmf h729) w735.2.1 w735.2.2.1 ; rw [w735.2.2.2] at w; exact w)) ?_
  refine ey_iload (cd_403 rfl) (jup_pi (lv := (jup lv 5 (jI q710.1))) (j := 5) (v := jI q727.1) (z := q710.1) rfl) ?_
  by_cases q736 : (jw (jd_203 (jmf h729))) = (jw q710.1)
  · rw [if_pos q736] at e
    refine ey_ceq (cd_403 rfl) rfl rfl rfl q736 ?_
    refine ey_iload (cd_403 rfl) (jup_pi (lv := (jup lv 5 (jI q710.1))) (j := 5) (v := jI q727.1) (z := q710.1) rfl) ?_
    by_cases q737 : (jw q710.1) = 0
    · rw [if_pos q737] at e
      refine ey_yne (cd_403 rfl) rfl rfl (fun w => w q737) ?_
      refine ey_aload_n (cd_403 rfl) f3 ?_
      refine ey_iconst (cd_403 rfl) ?_
      obtain ⟨a738, e739, e⟩ := jbind e
      refine ey_rs (s0 := [jI 0, jR x3]) (s1 := [jI 0, jR (some a738)]) (by rw [e739]) ?_
      obtain ⟨v740, e741, e⟩ := jbind e
      refine ey_lald (cd_403 rfl) e741 ?_
      refine ey_iload (cd_403 rfl) rfl ?_
      refine ey_i2l (cd_403 rfl) ?_
      refine ey_lcmp (cd_403 rfl) ?_
      by_cases q742 : (jwl v740) = (jw q727.1)
      · rw [if_pos q742] at e
        refine ey_zeq (cd_403 rfl) rfl rfl ((jlc_eq rfl (jwl_jw _)).mpr q742) ?_
        exact jk_403_b1804 e K (jup (jup lv 5 (jI q710.1)) 6 (jI q727.1)) f0 f1 f2 f3 (jup_o rfl (jup_pi (lv := lv) (j := 4) (v := jI q710.1) (z := x4) f4))
      · rw [if_neg q742] at e
        refine ey_yeq (cd_403 rfl) rfl rfl (fun w => q742 ((jlc_eq rfl (jwl_jw _)).mp w)) ?_
        cases e
    · rw [if_neg q737] at e
      refine ey_zne (cd_403 rfl) rfl rfl q737 ?_
      exact jk_403_b1804 e K (jup (jup lv 5 (jI q710.1)) 6 (jI q727.1)) f0 f1 f2 f3 (jup_o rfl (jup_pi (lv := lv) (j := 4) (v := jI q710.1) (z := x4) f4))
  · rw [if_neg q736] at e
    refine ey_neq (cd_403 rfl) rfl rfl rfl q736 ?_
    cases e
def jd_403_b1915 (L : Nat) (xs : Nat → Int32) (x1 : Option Nat) (x2 : Option Nat) (x3 : Option Nat) (x4 : Int) (h : jH) : Option ((Int × jH) ⊕ jH) :=
  jd_403_b3169 L xs x1 x2 x3 x4 h
set_option maxRecDepth 100000 in
theorem jk_403_b1915 {L : Nat} {xs : Nat → Int32} {x1 : Option Nat} {x2 : Option Nat} {x3 : Option Nat} {x4 : Int} {h : jH} {o : ((Int × jH) ⊕ jH)} {r : mm_R} (e : jd_403_b1915 L xs x1 x2 x3 x4 h = some o) (K : jsm (fun s => (∀ lv : jL, lv 0 = some (jR (some 1000000)) → lv 1 = some (jR x1) → lv 2 = some (jR x2) → lv 3 = some (jR x3) → lv 4 = some (jI s.1) → ey (mm_xt L xs) 72 403 23 lv [] s.2 r)) (fun x => (∀ lv : jL, ey (mm_xt L xs) 72 403 3175 lv [] x r)) o) : ∀ lv : jL, lv 0 = some (jR (some 1000000)) → lv 1 = some (jR x1) → lv 2 = some (jR x2) → lv 3 = some (jR x3) → lv 4 = some (jI x4) → ey (mm_xt L xs) 72 403 1915 lv [] h r := by
  intro lv f0 f1 f2 f3 f4
  unfold jd_403_b1915 at e
  refine ey_goto (cd_403 rfl) rfl ?_
  exact jk_403_b3169 e K lv f0 f1 f2 f3 f4
def jd_403_b1807 (L : Nat) (xs : Nat → Int32) (x1 : Option Nat) (x2 : Option Nat) (x3 : Option Nat) (x4 : Int) (h : jH) : Option ((Int × jH) ⊕ jH) :=
  ((jsc L xs (x4 + 1)).bind fun v744 => ((jsc L xs (x4 + 2)).bind fun v746 => ((jsc L xs (x4 + 3)).bind fun v748 => ((jsc L xs (x4 + 4)).bind fun v750 => ((jsc L xs (x4 + 5)).bind fun v752 => ((jd_384 x1 v744 v746 v748 v750 v752 x3 h).bind fun q754 => ((jsc L xs (x4 + 1)).bind fun v756 => ((jsc L xs (x4 + 2)).bind fun v758 => ((jsc L xs (x4 + 3)).bind fun v760 => ((jsc L xs (x4 + 4)).bind fun v762 => ((jsc L xs (x4 + 5)).bind fun v764 => ((x2).bind fun a766 => ((jlk q754.2 a766).bind fun u768 => ((jd_322 v756 v758 v760 v762 v764 (jmf q754.2)).bind fun q771 => ((some (jhm q754.2 q771.2)).bind fun h773 => ((x2).bind fun a775 => ((jlk h773 a775).bind fun u777 => (if (jw (jd_203 (jmf h773))) = (jw q754.1) then (if (jw q754.1) = 0 then ((x3).bind fun a782 => ((jal h773 a782 0).bind fun v784 => (if (jwl v784) = (jwl (if (jw q771.1) = 0 then 0 else 1)) then jd_403_b1915 L xs x1 x2 x3 x4 h773 else none))) else jd_403_b1915 L xs x1 x2 x3 x4 h773) else none))))))))))))))))))
set_option maxRecDepth 100000 in
theorem jk_403_b1807 {L : Nat} {xs : Nat → Int32} {x1 : Option Nat} {x2 : Option Nat} {x3 : Option Nat} {x4 : Int} {h : jH} {o : ((Int × jH) ⊕ jH)} {r : mm_R} (e : jd_403_b1807 L xs x1 x2 x3 x4 h = some o) (K : jsm (fun s => (∀ lv : jL, lv 0 = some (jR (some 1000000)) → lv 1 = some (jR x1) → lv 2 = some (jR x2) → lv 3 = some (jR x3) → lv 4 = some (jI s.1) → ey (mm_xt L xs) 72 403 23 lv [] s.2 r)) (fun x => (∀ lv : jL, ey (mm_xt L xs) 72 403 3175 lv [] x r)) o) : ∀ lv : jL, lv 0 = some (jR (some 1000000)) → lv 1 = some (jR x1) → lv 2 = some (jR x2) → lv 3 = some (jR x3) → lv 4 = some (jI x4) → ey (mm_xt L xs) 72 403 1807 lv [] h r := by
  intro lv f0 f1 f2 f3 f4
  unfold jd_403_b1807 at e
  refine ey_aload_n (cd_403 rfl) f1 ?_
  refine ey_aload_n (cd_403 rfl) f0 ?_
  refine ey_iload (cd_403 rfl) f4 ?_
  refine ey_iconst (cd_403 rfl) ?_
  refine ey_iadd (cd_403 rfl) ?_
  obtain ⟨v744, e745, e⟩ := jbind e
  refine ey_iasc (cd_403 rfl) e745 ?_
  refine ey_aload_n (cd_403 rfl) f0 ?_
  refine ey_iload (cd_403 rfl) f4 ?_
  refine ey_iconst (cd_403 rfl) ?_
  refine ey_iadd (cd_403 rfl) ?_
  obtain ⟨v746, e747, e⟩ := jbind e
  refine ey_iasc (cd_403 rfl) e747 ?_
  refine ey_aload_n (cd_403 rfl) f0 ?_
  refine ey_iload (cd_403 rfl) f4 ?_
  refine ey_iconst (cd_403 rfl) ?_
  refine ey_iadd (cd_403 rfl) ?_
  obtain ⟨v748, e749, e⟩ := jbind e
  refine ey_iasc (cd_403 rfl) e749 ?_
  refine ey_aload_n (cd_403 rfl) f0 ?_
  refine ey_iload (cd_403 rfl) f4 ?_
  refine ey_iconst (cd_403 rfl) ?_
  refine ey_iadd (cd_403 rfl) ?_
  obtain ⟨v750, e751, e⟩ := jbind e
  refine ey_iasc (cd_403 rfl) e751 ?_
  refine ey_aload_n (cd_403 rfl) f0 ?_
  refine ey_iload (cd_403 rfl) f4 ?_
  refine ey_iconst (cd_403 rfl) ?_
  refine ey_iadd (cd_403 rfl) ?_
  obtain ⟨v752, e753, e⟩ := jbind e
  refine ey_iasc (cd_403 rfl) e753 ?_
  refine ey_aload_n (cd_403 rfl) f3 ?_
  obtain ⟨q754, e755, e⟩ := jbind e
  refine ey_cs (s0 := [jR x3, jI v752, jI v750, jI v748, jI v746, jI v744, jR x1]) (s1 := []) (st' := [jI q754.1]) (cd_403 rfl) mt_403 mt_384 rfl (by decide) rfl rfl (jsml_s rfl) rfl (mm_Runs.up (d := 4) (by decide) (ok_384 e755)) ?_
  refine ey_istore (cd_403 rfl) mt_403 rfl ?_
  refine ey_aload_n (cd_403 rfl) f2 ?_
  refine ey_aload_n (cd_403 rfl) f0 ?_
  refine ey_iload (cd_403 rfl) (jup_pi (lv := lv) (j := 4) (v := jI q754.1) (z := x4) f4) ?_
  refine ey_iconst (cd_403 rfl) ?_
  refine ey_iadd (cd_403 rfl) ?_
  obtain ⟨v756, e757, e⟩ := jbind e
  refine ey_iasc (cd_403 rfl) e757 ?_
  refine ey_aload_n (cd_403 rfl) f0 ?_
  refine ey_iload (cd_403 rfl) (jup_pi (lv := lv) (j := 4) (v := jI q754.1) (z := x4) f4) ?_
  refine ey_iconst (cd_403 rfl) ?_
  refine ey_iadd (cd_403 rfl) ?_
  obtain ⟨v758, e759, e⟩ := jbind e
  refine ey_iasc (cd_403 rfl) e759 ?_
  refine ey_aload_n (cd_403 rfl) f0 ?_
  refine ey_iload (cd_403 rfl) (jup_pi (lv := lv) (j := 4) (v := jI q754.1) (z := x4) f4) ?_
  refine ey_iconst (cd_403 rfl) ?_
  refine ey_iadd (cd_403 rfl) ?_
  obtain ⟨v760, e761, e⟩ := jbind e
  refine ey_iasc (cd_403 rfl) e761 ?_
  refine ey_aload_n (cd_403 rfl) f0 ?_
  refine ey_iload (cd_403 rfl) (jup_pi (lv := lv) (j := 4) (v := jI q754.1) (z := x4) f4) ?_
  refine ey_iconst (cd_403 rfl) ?_
  refine ey_iadd (cd_403 rfl) ?_
  obtain ⟨v762, e763, e⟩ := jbind e
  refine ey_iasc (cd_403 rfl) e763 ?_
  refine ey_aload_n (cd_403 rfl) f0 ?_
  refine ey_iload (cd_403 rfl) (jup_pi (lv := lv) (j := 4) (v := jI q754.1) (z := x4) f4) ?_
  refine ey_iconst (cd_403 rfl) ?_
  refine ey_iadd (cd_403 rfl) ?_
  obtain ⟨v764, e765, e⟩ := jbind e
  refine ey_iasc (cd_403 rfl) e765 ?_
  obtain ⟨a766, e767, e⟩ := jbind e
  refine ey_rs (s0 := [jI v764, jI v762, jI v760, jI v758, jI v756, jR x2]) (s1 := [jI v764, jI v762, jI v760, jI v758, jI v756, jR (some a766)]) (by rw [e767]) ?_
  obtain ⟨u768, e769, e⟩ := jbind e
  have w770 := jlk_s e769
  refine ey_rs (s0 := [jI v764, jI v762, jI v760, jI v758, jI v756, jR (some a766)]) (s1 := [jI v764, jI v762, jI v760, jI v758, jI v756, jR (some 76)]) (by rw [w770.1]) ?_
  obtain ⟨q771, e772, e⟩ := jbind e
  refine ey_cv (s0 := [jI v764, jI v762, jI v760, jI v758, jI v756, jR (some 76)]) (s1 := []) (st' := [jI q771.1]) (cd_403 rfl) mt_403 mt_322 rfl rfl rfl (by have w := jhm_is (m := jmf q754.2) w770.2.1; rw [w770.2.2.2] at w; exact w) rfl (jsml_s rfl) rfl (mm_Runs.up (d := 5) (by decide) (by have w := ok_322 (L := L) (xs := xs) (b := q754.2) (m := jmf q754.2) w770.2.1 w770.2.2.1 e772; rw [w770.2.2.2] at w; exact w)) ?_
  obtain ⟨h773, e774, e⟩ := jbind e
  obtain rfl : (jhm q754.2 q771.2) = h773 := Option.some.inj e774
  refine ey_istore (cd_403 rfl) mt_403 rfl ?_
  refine ey_aload_n (cd_403 rfl) f2 ?_
  obtain ⟨a775, e776, e⟩ := jbind e
  refine ey_rs (s0 := [jR x2]) (s1 := [jR (some a775)]) (by rw [e776]) ?_
  obtain ⟨u777, e778, e⟩ := jbind e
  have w779 := jlk_s e778
  refine ey_rs (s0 := [jR (some a775)]) (s1 := [jR (some 76)]) (by rw [w779.1]) ?_
  refine ey_cv (s0 := [jR (some 76)]) (s1 := []) (st' := [jI (jd_203 (jmf h773))]) (cd_403 rfl) mt_403 mt_203 rfl rfl rfl (by have w := jhm_is (m := jmf h773) w779.2.1; rw [w779.2.2.2] at w; exact w) rfl (jsml_s rfl) rfl (mm_Runs.up (d := 1) (by decide) (by have w := ok_203 (L := L) (xs := xs) (b := h773) (m := jmf h773) w779.2.1 w779.2.2.1 ; rw [w779.2.2.2] at w; exact w)) ?_
  refine ey_iload (cd_403 rfl) (jup_pi (lv := (jup lv 5 (jI q754.1))) (j := 5) (v := jI q771.1) (z := q754.1) rfl) ?_
  by_cases q780 : (jw (jd_203 (jmf h773))) = (jw q754.1)
  · rw [if_pos q780] at e
    refine ey_ceq (cd_403 rfl) rfl rfl rfl q780 ?_
    refine ey_iload (cd_403 rfl) (jup_pi (lv := (jup lv 5 (jI q754.1))) (j := 5) (v := jI q771.1) (z := q754.1) rfl) ?_
    by_cases q781 : (jw q754.1) = 0
    · rw [if_pos q781] at e
      refine ey_yne (cd_403 rfl) rfl rfl (fun w => w q781) ?_
      refine ey_aload_n (cd_403 rfl) f3 ?_
      refine ey_iconst (cd_403 rfl) ?_
      obtain ⟨a782, e783, e⟩ := jbind e
      refine ey_rs (s0 := [jI 0, jR x3]) (s1 := [jI 0, jR (some a782)]) (by rw [e783]) ?_
      obtain ⟨v784, e785, e⟩ := jbind e
      refine ey_lald (cd_403 rfl) e785 ?_
      refine ey_iload (cd_403 rfl) rfl ?_
      have K787 : ∀ lv : jL, lv 0 = some (jR (some 1000000)) → lv 1 = some (jR x1) → lv 2 = some (jR x2) → lv 3 = some (jR x3) → lv 4 = some (jI x4) → ey (mm_xt L xs) 72 403 1909 lv [jJ (if (jw q771.1) = 0 then 0 else 1), jJ v784] h773 r := by
        intro lv g0 g1 g2 g3 g4
        refine ey_lcmp (cd_403 rfl) ?_
        by_cases q786 : (jwl v784) = (jwl (if (jw q771.1) = 0 then 0 else 1))
        · rw [if_pos q786] at e
          refine ey_zeq (cd_403 rfl) rfl rfl ((jlc_eq rfl rfl).mpr q786) ?_
          exact jk_403_b1915 e K lv g0 g1 g2 g3 g4
        · rw [if_neg q786] at e
          refine ey_yeq (cd_403 rfl) rfl rfl (fun w => q786 ((jlc_eq rfl rfl).mp w)) ?_
          cases e
      by_cases q788 : (jw q771.1) = 0
      · refine ey_zeq (cd_403 rfl) rfl rfl q788 ?_
        refine ey_lconst0 (cd_403 rfl) ?_
        exact ey_rs (s0 := [jJ 0, jJ v784]) (s1 := [jJ (if (jw q771.1) = 0 then 0 else 1), jJ v784]) (by rw [show ((if (jw q771.1) = 0 then 0 else 1) : Int) = 0 from (if_pos q788)]) (K787 (jup (jup lv 5 (jI q754.1)) 6 (jI q771.1)) f0 f1 f2 f3 (jup_o rfl (jup_pi (lv := lv) (j := 4) (v := jI q754.1) (z := x4) f4)))
      · refine ey_yeq (cd_403 rfl) rfl rfl q788 ?_
        refine ey_lconst1 (cd_403 rfl) ?_
        refine ey_goto (cd_403 rfl) rfl ?_
        exact ey_rs (s0 := [jJ 1, jJ v784]) (s1 := [jJ (if (jw q771.1) = 0 then 0 else 1), jJ v784]) (by rw [show ((if (jw q771.1) = 0 then 0 else 1) : Int) = 1 from (if_neg q788)]) (K787 (jup (jup lv 5 (jI q754.1)) 6 (jI q771.1)) f0 f1 f2 f3 (jup_o rfl (jup_pi (lv := lv) (j := 4) (v := jI q754.1) (z := x4) f4)))
    · rw [if_neg q781] at e
      refine ey_zne (cd_403 rfl) rfl rfl q781 ?_
      exact jk_403_b1915 e K (jup (jup lv 5 (jI q754.1)) 6 (jI q771.1)) f0 f1 f2 f3 (jup_o rfl (jup_pi (lv := lv) (j := 4) (v := jI q754.1) (z := x4) f4))
  · rw [if_neg q780] at e
    refine ey_neq (cd_403 rfl) rfl rfl rfl q780 ?_
    cases e
def jd_403_b1983 (L : Nat) (xs : Nat → Int32) (x1 : Option Nat) (x2 : Option Nat) (x3 : Option Nat) (x4 : Int) (h : jH) : Option ((Int × jH) ⊕ jH) :=
  jd_403_b3169 L xs x1 x2 x3 x4 h
set_option maxRecDepth 100000 in
theorem jk_403_b1983 {L : Nat} {xs : Nat → Int32} {x1 : Option Nat} {x2 : Option Nat} {x3 : Option Nat} {x4 : Int} {h : jH} {o : ((Int × jH) ⊕ jH)} {r : mm_R} (e : jd_403_b1983 L xs x1 x2 x3 x4 h = some o) (K : jsm (fun s => (∀ lv : jL, lv 0 = some (jR (some 1000000)) → lv 1 = some (jR x1) → lv 2 = some (jR x2) → lv 3 = some (jR x3) → lv 4 = some (jI s.1) → ey (mm_xt L xs) 72 403 23 lv [] s.2 r)) (fun x => (∀ lv : jL, ey (mm_xt L xs) 72 403 3175 lv [] x r)) o) : ∀ lv : jL, lv 0 = some (jR (some 1000000)) → lv 1 = some (jR x1) → lv 2 = some (jR x2) → lv 3 = some (jR x3) → lv 4 = some (jI x4) → ey (mm_xt L xs) 72 403 1983 lv [] h r := by
  intro lv f0 f1 f2 f3 f4
  unfold jd_403_b1983 at e
  refine ey_goto (cd_403 rfl) rfl ?_
  exact jk_403_b3169 e K lv f0 f1 f2 f3 f4
def jd_403_b1918 (L : Nat) (xs : Nat → Int32) (x1 : Option Nat) (x2 : Option Nat) (x3 : Option Nat) (x4 : Int) (h : jH) : Option ((Int × jH) ⊕ jH) :=
  ((jsc L xs (x4 + 1)).bind fun v790 => ((jsc L xs (x4 + 2)).bind fun v792 => ((jd_385 x1 v790 v792 x3 h).bind fun q794 => ((jsc L xs (x4 + 1)).bind fun v796 => ((jsc L xs (x4 + 2)).bind fun v798 => ((x2).bind fun a800 => ((jlk q794.2 a800).bind fun u802 => ((jd_323 v796 v798 (jmf q794.2)).bind fun q805 => ((some (jhm q794.2 q805.2)).bind fun h807 => ((x2).bind fun a809 => ((jlk h807 a809).bind fun u811 => (if (jw (jd_203 (jmf h807))) = (jw q794.1) then (if (jw q794.1) = 0 then ((x3).bind fun a816 => ((jal h807 a816 0).bind fun v818 => (if (jwl v818) = (jw q805.1) then jd_403_b1983 L xs x1 x2 x3 x4 h807 else none))) else jd_403_b1983 L xs x1 x2 x3 x4 h807) else none))))))))))))
set_option maxRecDepth 100000 in
theorem jk_403_b1918 {L : Nat} {xs : Nat → Int32} {x1 : Option Nat} {x2 : Option Nat} {x3 : Option Nat} {x4 : Int} {h : jH} {o : ((Int × jH) ⊕ jH)} {r : mm_R} (e : jd_403_b1918 L xs x1 x2 x3 x4 h = some o) (K : jsm (fun s => (∀ lv : jL, lv 0 = some (jR (some 1000000)) → lv 1 = some (jR x1) → lv 2 = some (jR x2) → lv 3 = some (jR x3) → lv 4 = some (jI s.1) → ey (mm_xt L xs) 72 403 23 lv [] s.2 r)) (fun x => (∀ lv : jL, ey (mm_xt L xs) 72 403 3175 lv [] x r)) o) : ∀ lv : jL, lv 0 = some (jR (some 1000000)) → lv 1 = some (jR x1) → lv 2 = some (jR x2) → lv 3 = some (jR x3) → lv 4 = some (jI x4) → ey (mm_xt L xs) 72 403 1918 lv [] h r := by
  intro lv f0 f1 f2 f3 f4
  unfold jd_403_b1918 at e
  refine ey_aload_n (cd_403 rfl) f1 ?_
  refine ey_aload_n (cd_403 rfl) f0 ?_
  refine ey_iload (cd_403 rfl) f4 ?_
  refine ey_iconst (cd_403 rfl) ?_
  refine ey_iadd (cd_403 rfl) ?_
  obtain ⟨v790, e791, e⟩ := jbind e
  refine ey_iasc (cd_403 rfl) e791 ?_
  refine ey_aload_n (cd_403 rfl) f0 ?_
  refine ey_iload (cd_403 rfl) f4 ?_
  refine ey_iconst (cd_403 rfl) ?_
  refine ey_iadd (cd_403 rfl) ?_
  obtain ⟨v792, e793, e⟩ := jbind e
  refine ey_iasc (cd_403 rfl) e793 ?_
  refine ey_aload_n (cd_403 rfl) f3 ?_
  obtain ⟨q794, e795, e⟩ := jbind e
  refine ey_cs (s0 := [jR x3, jI v792, jI v790, jR x1]) (s1 := []) (st' := [jI q794.1]) (cd_403 rfl) mt_403 mt_385 rfl (by decide) rfl rfl (jsml_s rfl) rfl (mm_Runs.up (d := 4) (by decide) (ok_385 e795)) ?_
  refine ey_istore (cd_403 rfl) mt_403 rfl ?_
  refine ey_aload_n (cd_403 rfl) f2 ?_
  refine ey_aload_n (cd_403 rfl) f0 ?_
  refine ey_iload (cd_403 rfl) (jup_pi (lv := lv) (j := 4) (v := jI q794.1) (z := x4) f4) ?_
  refine ey_iconst (cd_403 rfl) ?_
  refine ey_iadd (cd_403 rfl) ?_
  obtain ⟨v796, e797, e⟩ := jbind e
  refine ey_iasc (cd_403 rfl) e797 ?_
  refine ey_aload_n (cd_403 rfl) f0 ?_
  refine ey_iload (cd_403 rfl) (jup_pi (lv := lv) (j := 4) (v := jI q794.1) (z := x4) f4) ?_
  refine ey_iconst (cd_403 rfl) ?_
  refine ey_iadd (cd_403 rfl) ?_
  obtain ⟨v798, e799, e⟩ := jbind e
  refine ey_iasc (cd_403 rfl) e799 ?_
  obtain ⟨a800, e801, e⟩ := jbind e
  refine ey_rs (s0 := [jI v798, jI v796, jR x2]) (s1 := [jI v798, jI v796, jR (some a800)]) (by rw [e801]) ?_
  obtain ⟨u802, e803, e⟩ := jbind e
  have w804 := jlk_s e803
  refine ey_rs (s0 := [jI v798, jI v796, jR (some a800)]) (s1 := [jI v798, jI v796, jR (some 76)]) (by rw [w804.1]) ?_
  obtain ⟨q805, e806, e⟩ := jbind e
  refine ey_cv (s0 := [jI v798, jI v796, jR (some 76)]) (s1 := []) (st' := [jI q805.1]) (cd_403 rfl) mt_403 mt_323 rfl rfl rfl (by have w := jhm_is (m := jmf q794.2) w804.2.1; rw [w804.2.2.2] at w; exact w) rfl (jsml_s rfl) rfl (mm_Runs.up (d := 4) (by decide) (by have w := ok_323 (L := L) (xs := xs) (b := q794.2) (m := jmf q794.2) w804.2.1 w804.2.2.1 e806; rw [w804.2.2.2] at w; exact w)) ?_
  obtain ⟨h807, e808, e⟩ := jbind e
  obtain rfl : (jhm q794.2 q805.2) = h807 := Option.some.inj e808
  refine ey_istore (cd_403 rfl) mt_403 rfl ?_
  refine ey_aload_n (cd_403 rfl) f2 ?_
  obtain ⟨a809, e810, e⟩ := jbind e
  refine ey_rs (s0 := [jR x2]) (s1 := [jR (some a809)]) (by rw [e810]) ?_
  obtain ⟨u811, e812, e⟩ := jbind e
  have w813 := jlk_s e812
  refine ey_rs (s0 := [jR (some a809)]) (s1 := [jR (some 76)]) (by rw [w813.1]) ?_
  refine ey_cv (s0 := [jR (some 76)]) (s1 := []) (st' := [jI (jd_203 (jmf h807))]) (cd_403 rfl) mt_403 mt_203 rfl rfl rfl (by have w := jhm_is (m := jmf h807) w813.2.1; rw [w813.2.2.2] at w; exact w) rfl (jsml_s rfl) rfl (mm_Runs.up (d := 1) (by decide) (by have w := ok_203 (L := L) (xs := xs) (b := h807) (m := jmf h807) w813.2.1 w813.2.2.1 ; rw [w813.2.2.2] at w; exact w)) ?_
  refine ey_iload (cd_403 rfl) (jup_pi (lv := (jup lv 5 (jI q794.1))) (j := 5) (v := jI q805.1) (z := q794.1) rfl) ?_
  by_cases q814 : (jw (jd_203 (jmf h807))) = (jw q794.1)
  · rw [if_pos q814] at e
    refine ey_ceq (cd_403 rfl) rfl rfl rfl q814 ?_
    refine ey_iload (cd_403 rfl) (jup_pi (lv := (jup lv 5 (jI q794.1))) (j := 5) (v := jI q805.1) (z := q794.1) rfl) ?_
    by_cases q815 : (jw q794.1) = 0
    · rw [if_pos q815] at e
      refine ey_yne (cd_403 rfl) rfl rfl (fun w => w q815) ?_
      refine ey_aload_n (cd_403 rfl) f3 ?_
      refine ey_iconst (cd_403 rfl) ?_
      obtain ⟨a816, e817, e⟩ := jbind e
      refine ey_rs (s0 := [jI 0, jR x3]) (s1 := [jI 0, jR (some a816)]) (by rw [e817]) ?_
      obtain ⟨v818, e819, e⟩ := jbind e
      refine ey_lald (cd_403 rfl) e819 ?_
      refine ey_iload (cd_403 rfl) rfl ?_
      refine ey_i2l (cd_403 rfl) ?_
      refine ey_lcmp (cd_403 rfl) ?_
      by_cases q820 : (jwl v818) = (jw q805.1)
      · rw [if_pos q820] at e
        refine ey_zeq (cd_403 rfl) rfl rfl ((jlc_eq rfl (jwl_jw _)).mpr q820) ?_
        exact jk_403_b1983 e K (jup (jup lv 5 (jI q794.1)) 6 (jI q805.1)) f0 f1 f2 f3 (jup_o rfl (jup_pi (lv := lv) (j := 4) (v := jI q794.1) (z := x4) f4))
      · rw [if_neg q820] at e
        refine ey_yeq (cd_403 rfl) rfl rfl (fun w => q820 ((jlc_eq rfl (jwl_jw _)).mp w)) ?_
        cases e
    · rw [if_neg q815] at e
      refine ey_zne (cd_403 rfl) rfl rfl q815 ?_
      exact jk_403_b1983 e K (jup (jup lv 5 (jI q794.1)) 6 (jI q805.1)) f0 f1 f2 f3 (jup_o rfl (jup_pi (lv := lv) (j := 4) (v := jI q794.1) (z := x4) f4))
  · rw [if_neg q814] at e
    refine ey_neq (cd_403 rfl) rfl rfl rfl q814 ?_
    cases e
def jd_403_b2075 (L : Nat) (xs : Nat → Int32) (x1 : Option Nat) (x2 : Option Nat) (x3 : Option Nat) (x4 : Int) (h : jH) : Option ((Int × jH) ⊕ jH) :=
  jd_403_b3169 L xs x1 x2 x3 x4 h
set_option maxRecDepth 100000 in
theorem jk_403_b2075 {L : Nat} {xs : Nat → Int32} {x1 : Option Nat} {x2 : Option Nat} {x3 : Option Nat} {x4 : Int} {h : jH} {o : ((Int × jH) ⊕ jH)} {r : mm_R} (e : jd_403_b2075 L xs x1 x2 x3 x4 h = some o) (K : jsm (fun s => (∀ lv : jL, lv 0 = some (jR (some 1000000)) → lv 1 = some (jR x1) → lv 2 = some (jR x2) → lv 3 = some (jR x3) → lv 4 = some (jI s.1) → ey (mm_xt L xs) 72 403 23 lv [] s.2 r)) (fun x => (∀ lv : jL, ey (mm_xt L xs) 72 403 3175 lv [] x r)) o) : ∀ lv : jL, lv 0 = some (jR (some 1000000)) → lv 1 = some (jR x1) → lv 2 = some (jR x2) → lv 3 = some (jR x3) → lv 4 = some (jI x4) → ey (mm_xt L xs) 72 403 2075 lv [] h r := by
  intro lv f0 f1 f2 f3 f4
  unfold jd_403_b2075 at e
  refine ey_goto (cd_403 rfl) rfl ?_
  exact jk_403_b3169 e K lv f0 f1 f2 f3 f4
def jd_403_b1986 (L : Nat) (xs : Nat → Int32) (x1 : Option Nat) (x2 : Option Nat) (x3 : Option Nat) (x4 : Int) (h : jH) : Option ((Int × jH) ⊕ jH) :=
  ((jsc L xs (x4 + 1)).bind fun v822 => ((jsc L xs (x4 + 2)).bind fun v824 => ((jsc L xs (x4 + 3)).bind fun v826 => ((jsc L xs (x4 + 4)).bind fun v828 => ((jd_386 x1 v822 v824 v826 v828 x3 h).bind fun q830 => ((jsc L xs (x4 + 1)).bind fun v832 => ((jsc L xs (x4 + 2)).bind fun v834 => ((jsc L xs (x4 + 3)).bind fun v836 => ((jsc L xs (x4 + 4)).bind fun v838 => ((x2).bind fun a840 => ((jlk q830.2 a840).bind fun u842 => ((jd_324 v832 v834 v836 v838 (jmf q830.2)).bind fun q845 => ((some (jhm q830.2 q845.2)).bind fun h847 => ((x2).bind fun a849 => ((jlk h847 a849).bind fun u851 => (if (jw (jd_203 (jmf h847))) = (jw q830.1) then (if (jw q830.1) = 0 then ((x3).bind fun a856 => ((jal h847 a856 0).bind fun v858 => (if (jwl v858) = (jw q845.1) then jd_403_b2075 L xs x1 x2 x3 x4 h847 else none))) else jd_403_b2075 L xs x1 x2 x3 x4 h847) else none))))))))))))))))
set_option maxRecDepth 100000 in
theorem jk_403_b1986 {L : Nat} {xs : Nat → Int32} {x1 : Option Nat} {x2 : Option Nat} {x3 : Option Nat} {x4 : Int} {h : jH} {o : ((Int × jH) ⊕ jH)} {r : mm_R} (e : jd_403_b1986 L xs x1 x2 x3 x4 h = some o) (K : jsm (fun s => (∀ lv : jL, lv 0 = some (jR (some 1000000)) → lv 1 = some (jR x1) → lv 2 = some (jR x2) → lv 3 = some (jR x3) → lv 4 = some (jI s.1) → ey (mm_xt L xs) 72 403 23 lv [] s.2 r)) (fun x => (∀ lv : jL, ey (mm_xt L xs) 72 403 3175 lv [] x r)) o) : ∀ lv : jL, lv 0 = some (jR (some 1000000)) → lv 1 = some (jR x1) → lv 2 = some (jR x2) → lv 3 = some (jR x3) → lv 4 = some (jI x4) → ey (mm_xt L xs) 72 403 1986 lv [] h r := by
  intro lv f0 f1 f2 f3 f4
  unfold jd_403_b1986 at e
  refine ey_aload_n (cd_403 rfl) f1 ?_
  refine ey_aload_n (cd_403 rfl) f0 ?_
  refine ey_iload (cd_403 rfl) f4 ?_
  refine ey_iconst (cd_403 rfl) ?_
  refine ey_iadd (cd_403 rfl) ?_
  obtain ⟨v822, e823, e⟩ := jbind e
  refine ey_iasc (cd_403 rfl) e823 ?_
  refine ey_aload_n (cd_403 rfl) f0 ?_
  refine ey_iload (cd_403 rfl) f4 ?_
  refine ey_iconst (cd_403 rfl) ?_
  refine ey_iadd (cd_403 rfl) ?_
  obtain ⟨v824, e825, e⟩ := jbind e
  refine ey_iasc (cd_403 rfl) e825 ?_
  refine ey_aload_n (cd_403 rfl) f0 ?_
  refine ey_iload (cd_403 rfl) f4 ?_
  refine ey_iconst (cd_403 rfl) ?_
  refine ey_iadd (cd_403 rfl) ?_
  obtain ⟨v826, e827, e⟩ := jbind e
  refine ey_iasc (cd_403 rfl) e827 ?_
  refine ey_aload_n (cd_403 rfl) f0 ?_
  refine ey_iload (cd_403 rfl) f4 ?_
  refine ey_iconst (cd_403 rfl) ?_
  refine ey_iadd (cd_403 rfl) ?_
  obtain ⟨v828, e829, e⟩ := jbind e
  refine ey_iasc (cd_403 rfl) e829 ?_
  refine ey_aload_n (cd_403 rfl) f3 ?_
  obtain ⟨q830, e831, e⟩ := jbind e
  refine ey_cs (s0 := [jR x3, jI v828, jI v826, jI v824, jI v822, jR x1]) (s1 := []) (st' := [jI q830.1]) (cd_403 rfl) mt_403 mt_386 rfl (by decide) rfl rfl (jsml_s rfl) rfl (mm_Runs.up (d := 3) (by decide) (ok_386 e831)) ?_
  refine ey_istore (cd_403 rfl) mt_403 rfl ?_
  refine ey_aload_n (cd_403 rfl) f2 ?_
  refine ey_aload_n (cd_403 rfl) f0 ?_
  refine ey_iload (cd_403 rfl) (jup_pi (lv := lv) (j := 4) (v := jI q830.1) (z := x4) f4) ?_
  refine ey_iconst (cd_403 rfl) ?_
  refine ey_iadd (cd_403 rfl) ?_
  obtain ⟨v832, e833, e⟩ := jbind e
  refine ey_iasc (cd_403 rfl) e833 ?_
  refine ey_aload_n (cd_403 rfl) f0 ?_
  refine ey_iload (cd_403 rfl) (jup_pi (lv := lv) (j := 4) (v := jI q830.1) (z := x4) f4) ?_
  refine ey_iconst (cd_403 rfl) ?_
  refine ey_iadd (cd_403 rfl) ?_
  obtain ⟨v834, e835, e⟩ := jbind e
  refine ey_iasc (cd_403 rfl) e835 ?_
  refine ey_aload_n (cd_403 rfl) f0 ?_
  refine ey_iload (cd_403 rfl) (jup_pi (lv := lv) (j := 4) (v := jI q830.1) (z := x4) f4) ?_
  refine ey_iconst (cd_403 rfl) ?_
  refine ey_iadd (cd_403 rfl) ?_
  obtain ⟨v836, e837, e⟩ := jbind e
  refine ey_iasc (cd_403 rfl) e837 ?_
  refine ey_aload_n (cd_403 rfl) f0 ?_
  refine ey_iload (cd_403 rfl) (jup_pi (lv := lv) (j := 4) (v := jI q830.1) (z := x4) f4) ?_
  refine ey_iconst (cd_403 rfl) ?_
  refine ey_iadd (cd_403 rfl) ?_
  obtain ⟨v838, e839, e⟩ := jbind e
  refine ey_iasc (cd_403 rfl) e839 ?_
  obtain ⟨a840, e841, e⟩ := jbind e
  refine ey_rs (s0 := [jI v838, jI v836, jI v834, jI v832, jR x2]) (s1 := [jI v838, jI v836, jI v834, jI v832, jR (some a840)]) (by rw [e841]) ?_
  obtain ⟨u842, e843, e⟩ := jbind e
  have w844 := jlk_s e843
  refine ey_rs (s0 := [jI v838, jI v836, jI v834, jI v832, jR (some a840)]) (s1 := [jI v838, jI v836, jI v834, jI v832, jR (some 76)]) (by rw [w844.1]) ?_
  obtain ⟨q845, e846, e⟩ := jbind e
  refine ey_cv (s0 := [jI v838, jI v836, jI v834, jI v832, jR (some 76)]) (s1 := []) (st' := [jI q845.1]) (cd_403 rfl) mt_403 mt_324 rfl rfl rfl (by have w := jhm_is (m := jmf q830.2) w844.2.1; rw [w844.2.2.2] at w; exact w) rfl (jsml_s rfl) rfl (mm_Runs.up (d := 4) (by decide) (by have w := ok_324 (L := L) (xs := xs) (b := q830.2) (m := jmf q830.2) w844.2.1 w844.2.2.1 e846; rw [w844.2.2.2] at w; exact w)) ?_
  obtain ⟨h847, e848, e⟩ := jbind e
  obtain rfl : (jhm q830.2 q845.2) = h847 := Option.some.inj e848
  refine ey_istore (cd_403 rfl) mt_403 rfl ?_
  refine ey_aload_n (cd_403 rfl) f2 ?_
  obtain ⟨a849, e850, e⟩ := jbind e
  refine ey_rs (s0 := [jR x2]) (s1 := [jR (some a849)]) (by rw [e850]) ?_
  obtain ⟨u851, e852, e⟩ := jbind e
  have w853 := jlk_s e852
  refine ey_rs (s0 := [jR (some a849)]) (s1 := [jR (some 76)]) (by rw [w853.1]) ?_
  refine ey_cv (s0 := [jR (some 76)]) (s1 := []) (st' := [jI (jd_203 (jmf h847))]) (cd_403 rfl) mt_403 mt_203 rfl rfl rfl (by have w := jhm_is (m := jmf h847) w853.2.1; rw [w853.2.2.2] at w; exact w) rfl (jsml_s rfl) rfl (mm_Runs.up (d := 1) (by decide) (by have w := ok_203 (L := L) (xs := xs) (b := h847) (m := jmf h847) w853.2.1 w853.2.2.1 ; rw [w853.2.2.2] at w; exact w)) ?_
  refine ey_iload (cd_403 rfl) (jup_pi (lv := (jup lv 5 (jI q830.1))) (j := 5) (v := jI q845.1) (z := q830.1) rfl) ?_
  by_cases q854 : (jw (jd_203 (jmf h847))) = (jw q830.1)
  · rw [if_pos q854] at e
    refine ey_ceq (cd_403 rfl) rfl rfl rfl q854 ?_
    refine ey_iload (cd_403 rfl) (jup_pi (lv := (jup lv 5 (jI q830.1))) (j := 5) (v := jI q845.1) (z := q830.1) rfl) ?_
    by_cases q855 : (jw q830.1) = 0
    · rw [if_pos q855] at e
      refine ey_yne (cd_403 rfl) rfl rfl (fun w => w q855) ?_
      refine ey_aload_n (cd_403 rfl) f3 ?_
      refine ey_iconst (cd_403 rfl) ?_
      obtain ⟨a856, e857, e⟩ := jbind e
      refine ey_rs (s0 := [jI 0, jR x3]) (s1 := [jI 0, jR (some a856)]) (by rw [e857]) ?_
      obtain ⟨v858, e859, e⟩ := jbind e
      refine ey_lald (cd_403 rfl) e859 ?_
      refine ey_iload (cd_403 rfl) rfl ?_
      refine ey_i2l (cd_403 rfl) ?_
      refine ey_lcmp (cd_403 rfl) ?_
      by_cases q860 : (jwl v858) = (jw q845.1)
      · rw [if_pos q860] at e
        refine ey_zeq (cd_403 rfl) rfl rfl ((jlc_eq rfl (jwl_jw _)).mpr q860) ?_
        exact jk_403_b2075 e K (jup (jup lv 5 (jI q830.1)) 6 (jI q845.1)) f0 f1 f2 f3 (jup_o rfl (jup_pi (lv := lv) (j := 4) (v := jI q830.1) (z := x4) f4))
      · rw [if_neg q860] at e
        refine ey_yeq (cd_403 rfl) rfl rfl (fun w => q860 ((jlc_eq rfl (jwl_jw _)).mp w)) ?_
        cases e
    · rw [if_neg q855] at e
      refine ey_zne (cd_403 rfl) rfl rfl q855 ?_
      exact jk_403_b2075 e K (jup (jup lv 5 (jI q830.1)) 6 (jI q845.1)) f0 f1 f2 f3 (jup_o rfl (jup_pi (lv := lv) (j := 4) (v := jI q830.1) (z := x4) f4))
  · rw [if_neg q854] at e
    refine ey_neq (cd_403 rfl) rfl rfl rfl q854 ?_
    cases e
def jd_403_b2155 (L : Nat) (xs : Nat → Int32) (x1 : Option Nat) (x2 : Option Nat) (x3 : Option Nat) (x4 : Int) (h : jH) : Option ((Int × jH) ⊕ jH) :=
  jd_403_b3169 L xs x1 x2 x3 x4 h
set_option maxRecDepth 100000 in
theorem jk_403_b2155 {L : Nat} {xs : Nat → Int32} {x1 : Option Nat} {x2 : Option Nat} {x3 : Option Nat} {x4 : Int} {h : jH} {o : ((Int × jH) ⊕ jH)} {r : mm_R} (e : jd_403_b2155 L xs x1 x2 x3 x4 h = some o) (K : jsm (fun s => (∀ lv : jL, lv 0 = some (jR (some 1000000)) → lv 1 = some (jR x1) → lv 2 = some (jR x2) → lv 3 = some (jR x3) → lv 4 = some (jI s.1) → ey (mm_xt L xs) 72 403 23 lv [] s.2 r)) (fun x => (∀ lv : jL, ey (mm_xt L xs) 72 403 3175 lv [] x r)) o) : ∀ lv : jL, lv 0 = some (jR (some 1000000)) → lv 1 = some (jR x1) → lv 2 = some (jR x2) → lv 3 = some (jR x3) → lv 4 = some (jI x4) → ey (mm_xt L xs) 72 403 2155 lv [] h r := by
  intro lv f0 f1 f2 f3 f4
  unfold jd_403_b2155 at e
  refine ey_goto (cd_403 rfl) rfl ?_
  exact jk_403_b3169 e K lv f0 f1 f2 f3 f4
def jd_403_b2078 (L : Nat) (xs : Nat → Int32) (x1 : Option Nat) (x2 : Option Nat) (x3 : Option Nat) (x4 : Int) (h : jH) : Option ((Int × jH) ⊕ jH) :=
  ((jsc L xs (x4 + 1)).bind fun v862 => ((jsc L xs (x4 + 2)).bind fun v864 => ((jsc L xs (x4 + 3)).bind fun v866 => ((jd_387 x1 v862 v864 v866 x3 h).bind fun q868 => ((jsc L xs (x4 + 1)).bind fun v870 => ((jsc L xs (x4 + 2)).bind fun v872 => ((jsc L xs (x4 + 3)).bind fun v874 => ((x2).bind fun a876 => ((jlk q868.2 a876).bind fun u878 => ((jd_325 v870 v872 v874 (jmf q868.2)).bind fun q881 => ((some (jhm q868.2 q881.2)).bind fun h883 => ((x2).bind fun a885 => ((jlk h883 a885).bind fun u887 => (if (jw (jd_203 (jmf h883))) = (jw q868.1) then (if (jw q868.1) = 0 then ((x3).bind fun a892 => ((jal h883 a892 0).bind fun v894 => (if (jwl v894) = (jw q881.1) then jd_403_b2155 L xs x1 x2 x3 x4 h883 else none))) else jd_403_b2155 L xs x1 x2 x3 x4 h883) else none))))))))))))))
set_option maxRecDepth 100000 in
theorem jk_403_b2078 {L : Nat} {xs : Nat → Int32} {x1 : Option Nat} {x2 : Option Nat} {x3 : Option Nat} {x4 : Int} {h : jH} {o : ((Int × jH) ⊕ jH)} {r : mm_R} (e : jd_403_b2078 L xs x1 x2 x3 x4 h = some o) (K : jsm (fun s => (∀ lv : jL, lv 0 = some (jR (some 1000000)) → lv 1 = some (jR x1) → lv 2 = some (jR x2) → lv 3 = some (jR x3) → lv 4 = some (jI s.1) → ey (mm_xt L xs) 72 403 23 lv [] s.2 r)) (fun x => (∀ lv : jL, ey (mm_xt L xs) 72 403 3175 lv [] x r)) o) : ∀ lv : jL, lv 0 = some (jR (some 1000000)) → lv 1 = some (jR x1) → lv 2 = some (jR x2) → lv 3 = some (jR x3) → lv 4 = some (jI x4) → ey (mm_xt L xs) 72 403 2078 lv [] h r := by
  intro lv f0 f1 f2 f3 f4
  unfold jd_403_b2078 at e
  refine ey_aload_n (cd_403 rfl) f1 ?_
  refine ey_aload_n (cd_403 rfl) f0 ?_
  refine ey_iload (cd_403 rfl) f4 ?_
  refine ey_iconst (cd_403 rfl) ?_
  refine ey_iadd (cd_403 rfl) ?_
  obtain ⟨v862, e863, e⟩ := jbind e
  refine ey_iasc (cd_403 rfl) e863 ?_
  refine ey_aload_n (cd_403 rfl) f0 ?_
  refine ey_iload (cd_403 rfl) f4 ?_
  refine ey_iconst (cd_403 rfl) ?_
  refine ey_iadd (cd_403 rfl) ?_
  obtain ⟨v864, e865, e⟩ := jbind e
  refine ey_iasc (cd_403 rfl) e865 ?_
  refine ey_aload_n (cd_403 rfl) f0 ?_
  refine ey_iload (cd_403 rfl) f4 ?_
  refine ey_iconst (cd_403 rfl) ?_
  refine ey_iadd (cd_403 rfl) ?_
  obtain ⟨v866, e867, e⟩ := jbind e
  refine ey_iasc (cd_403 rfl) e867 ?_
  refine ey_aload_n (cd_403 rfl) f3 ?_
  obtain ⟨q868, e869, e⟩ := jbind e
  refine ey_cs (s0 := [jR x3, jI v866, jI v864, jI v862, jR x1]) (s1 := []) (st' := [jI q868.1]) (cd_403 rfl) mt_403 mt_387 rfl (by decide) rfl rfl (jsml_s rfl) rfl (mm_Runs.up (d := 3) (by decide) (ok_387 e869)) ?_
  refine ey_istore (cd_403 rfl) mt_403 rfl ?_
  refine ey_aload_n (cd_403 rfl) f2 ?_
  refine ey_aload_n (cd_403 rfl) f0 ?_
  refine ey_iload (cd_403 rfl) (jup_pi (lv := lv) (j := 4) (v := jI q868.1) (z := x4) f4) ?_
  refine ey_iconst (cd_403 rfl) ?_
  refine ey_iadd (cd_403 rfl) ?_
  obtain ⟨v870, e871, e⟩ := jbind e
  refine ey_iasc (cd_403 rfl) e871 ?_
  refine ey_aload_n (cd_403 rfl) f0 ?_
  refine ey_iload (cd_403 rfl) (jup_pi (lv := lv) (j := 4) (v := jI q868.1) (z := x4) f4) ?_
  refine ey_iconst (cd_403 rfl) ?_
  refine ey_iadd (cd_403 rfl) ?_
  obtain ⟨v872, e873, e⟩ := jbind e
  refine ey_iasc (cd_403 rfl) e873 ?_
  refine ey_aload_n (cd_403 rfl) f0 ?_
  refine ey_iload (cd_403 rfl) (jup_pi (lv := lv) (j := 4) (v := jI q868.1) (z := x4) f4) ?_
  refine ey_iconst (cd_403 rfl) ?_
  refine ey_iadd (cd_403 rfl) ?_
  obtain ⟨v874, e875, e⟩ := jbind e
  refine ey_iasc (cd_403 rfl) e875 ?_
  obtain ⟨a876, e877, e⟩ := jbind e
  refine ey_rs (s0 := [jI v874, jI v872, jI v870, jR x2]) (s1 := [jI v874, jI v872, jI v870, jR (some a876)]) (by rw [e877]) ?_
  obtain ⟨u878, e879, e⟩ := jbind e
  have w880 := jlk_s e879
  refine ey_rs (s0 := [jI v874, jI v872, jI v870, jR (some a876)]) (s1 := [jI v874, jI v872, jI v870, jR (some 76)]) (by rw [w880.1]) ?_
  obtain ⟨q881, e882, e⟩ := jbind e
  refine ey_cv (s0 := [jI v874, jI v872, jI v870, jR (some 76)]) (s1 := []) (st' := [jI q881.1]) (cd_403 rfl) mt_403 mt_325 rfl rfl rfl (by have w := jhm_is (m := jmf q868.2) w880.2.1; rw [w880.2.2.2] at w; exact w) rfl (jsml_s rfl) rfl (mm_Runs.up (d := 4) (by decide) (by have w := ok_325 (L := L) (xs := xs) (b := q868.2) (m := jmf q868.2) w880.2.1 w880.2.2.1 e882; rw [w880.2.2.2] at w; exact w)) ?_
  obtain ⟨h883, e884, e⟩ := jbind e
  obtain rfl : (jhm q868.2 q881.2) = h883 := Option.some.inj e884
  refine ey_istore (cd_403 rfl) mt_403 rfl ?_
  refine ey_aload_n (cd_403 rfl) f2 ?_
  obtain ⟨a885, e886, e⟩ := jbind e
  refine ey_rs (s0 := [jR x2]) (s1 := [jR (some a885)]) (by rw [e886]) ?_
  obtain ⟨u887, e888, e⟩ := jbind e
  have w889 := jlk_s e888
  refine ey_rs (s0 := [jR (some a885)]) (s1 := [jR (some 76)]) (by rw [w889.1]) ?_
  refine ey_cv (s0 := [jR (some 76)]) (s1 := []) (st' := [jI (jd_203 (jmf h883))]) (cd_403 rfl) mt_403 mt_203 rfl rfl rfl (by have w := jhm_is (m := jmf h883) w889.2.1; rw [w889.2.2.2] at w; exact w) rfl (jsml_s rfl) rfl (mm_Runs.up (d := 1) (by decide) (by have w := ok_203 (L := L) (xs := xs) (b := h883) (m := jmf h883) w889.2.1 w889.2.2.1 ; rw [w889.2.2.2] at w; exact w)) ?_
  refine ey_iload (cd_403 rfl) (jup_pi (lv := (jup lv 5 (jI q868.1))) (j := 5) (v := jI q881.1) (z := q868.1) rfl) ?_
  by_cases q890 : (jw (jd_203 (jmf h883))) = (jw q868.1)
  · rw [if_pos q890] at e
    refine ey_ceq (cd_403 rfl) rfl rfl rfl q890 ?_
    refine ey_iload (cd_403 rfl) (jup_pi (lv := (jup lv 5 (jI q868.1))) (j := 5) (v := jI q881.1) (z := q868.1) rfl) ?_
    by_cases q891 : (jw q868.1) = 0
    · rw [if_pos q891] at e
      refine ey_yne (cd_403 rfl) rfl rfl (fun w => w q891) ?_
      refine ey_aload_n (cd_403 rfl) f3 ?_
      refine ey_iconst (cd_403 rfl) ?_
      obtain ⟨a892, e893, e⟩ := jbind e
      refine ey_rs (s0 := [jI 0, jR x3]) (s1 := [jI 0, jR (some a892)]) (by rw [e893]) ?_
      obtain ⟨v894, e895, e⟩ := jbind e
      refine ey_lald (cd_403 rfl) e895 ?_
      refine ey_iload (cd_403 rfl) rfl ?_
      refine ey_i2l (cd_403 rfl) ?_
      refine ey_lcmp (cd_403 rfl) ?_
      by_cases q896 : (jwl v894) = (jw q881.1)
      · rw [if_pos q896] at e
        refine ey_zeq (cd_403 rfl) rfl rfl ((jlc_eq rfl (jwl_jw _)).mpr q896) ?_
        exact jk_403_b2155 e K (jup (jup lv 5 (jI q868.1)) 6 (jI q881.1)) f0 f1 f2 f3 (jup_o rfl (jup_pi (lv := lv) (j := 4) (v := jI q868.1) (z := x4) f4))
      · rw [if_neg q896] at e
        refine ey_yeq (cd_403 rfl) rfl rfl (fun w => q896 ((jlc_eq rfl (jwl_jw _)).mp w)) ?_
        cases e
    · rw [if_neg q891] at e
      refine ey_zne (cd_403 rfl) rfl rfl q891 ?_
      exact jk_403_b2155 e K (jup (jup lv 5 (jI q868.1)) 6 (jI q881.1)) f0 f1 f2 f3 (jup_o rfl (jup_pi (lv := lv) (j := 4) (v := jI q868.1) (z := x4) f4))
  · rw [if_neg q890] at e
    refine ey_neq (cd_403 rfl) rfl rfl rfl q890 ?_
    cases e
def jd_403_b2199 (L : Nat) (xs : Nat → Int32) (x1 : Option Nat) (x2 : Option Nat) (x3 : Option Nat) (x4 : Int) (h : jH) : Option ((Int × jH) ⊕ jH) :=
  jd_403_b3169 L xs x1 x2 x3 x4 h
set_option maxRecDepth 100000 in
theorem jk_403_b2199 {L : Nat} {xs : Nat → Int32} {x1 : Option Nat} {x2 : Option Nat} {x3 : Option Nat} {x4 : Int} {h : jH} {o : ((Int × jH) ⊕ jH)} {r : mm_R} (e : jd_403_b2199 L xs x1 x2 x3 x4 h = some o) (K : jsm (fun s => (∀ lv : jL, lv 0 = some (jR (some 1000000)) → lv 1 = some (jR x1) → lv 2 = some (jR x2) → lv 3 = some (jR x3) → lv 4 = some (jI s.1) → ey (mm_xt L xs) 72 403 23 lv [] s.2 r)) (fun x => (∀ lv : jL, ey (mm_xt L xs) 72 403 3175 lv [] x r)) o) : ∀ lv : jL, lv 0 = some (jR (some 1000000)) → lv 1 = some (jR x1) → lv 2 = some (jR x2) → lv 3 = some (jR x3) → lv 4 = some (jI x4) → ey (mm_xt L xs) 72 403 2199 lv [] h r := by
  intro lv f0 f1 f2 f3 f4
  unfold jd_403_b2199 at e
  refine ey_goto (cd_403 rfl) rfl ?_
  exact jk_403_b3169 e K lv f0 f1 f2 f3 f4
def jd_403_b2158 (L : Nat) (xs : Nat → Int32) (x1 : Option Nat) (x2 : Option Nat) (x3 : Option Nat) (x4 : Int) (h : jH) : Option ((Int × jH) ⊕ jH) :=
  ((jd_388 x1 x3 h).bind fun q898 => ((x2).bind fun a900 => ((jlk q898.2 a900).bind fun u902 => ((jd_330 (jmf q898.2)).bind fun q905 => ((some (jhm q898.2 q905.2)).bind fun h907 => ((x2).bind fun a909 => ((jlk h907 a909).bind fun u911 => (if (jw (jd_203 (jmf h907))) = (jw q898.1) then (if (jw q898.1) = 0 then ((x3).bind fun a916 => ((jal h907 a916 0).bind fun v918 => (if (jwl v918) = (jw q905.1) then jd_403_b2199 L xs x1 x2 x3 x4 h907 else none))) else jd_403_b2199 L xs x1 x2 x3 x4 h907) else none))))))))
set_option maxRecDepth 100000 in
theorem jk_403_b2158 {L : Nat} {xs : Nat → Int32} {x1 : Option Nat} {x2 : Option Nat} {x3 : Option Nat} {x4 : Int} {h : jH} {o : ((Int × jH) ⊕ jH)} {r : mm_R} (e : jd_403_b2158 L xs x1 x2 x3 x4 h = some o) (K : jsm (fun s => (∀ lv : jL, lv 0 = some (jR (some 1000000)) → lv 1 = some (jR x1) → lv 2 = some (jR x2) → lv 3 = some (jR x3) → lv 4 = some (jI s.1) → ey (mm_xt L xs) 72 403 23 lv [] s.2 r)) (fun x => (∀ lv : jL, ey (mm_xt L xs) 72 403 3175 lv [] x r)) o) : ∀ lv : jL, lv 0 = some (jR (some 1000000)) → lv 1 = some (jR x1) → lv 2 = some (jR x2) → lv 3 = some (jR x3) → lv 4 = some (jI x4) → ey (mm_xt L xs) 72 403 2158 lv [] h r := by
  intro lv f0 f1 f2 f3 f4
  unfold jd_403_b2158 at e
  refine ey_aload_n (cd_403 rfl) f1 ?_
  refine ey_aload_n (cd_403 rfl) f3 ?_
  obtain ⟨q898, e899, e⟩ := jbind e
  refine ey_cs (s0 := [jR x3, jR x1]) (s1 := []) (st' := [jI q898.1]) (cd_403 rfl) mt_403 mt_388 rfl (by decide) rfl rfl (jsml_s rfl) rfl (mm_Runs.up (d := 9) (by decide) (ok_388 e899)) ?_
  refine ey_istore (cd_403 rfl) mt_403 rfl ?_
  refine ey_aload_n (cd_403 rfl) f2 ?_
  obtain ⟨a900, e901, e⟩ := jbind e
  refine ey_rs (s0 := [jR x2]) (s1 := [jR (some a900)]) (by rw [e901]) ?_
  obtain ⟨u902, e903, e⟩ := jbind e
  have w904 := jlk_s e903
  refine ey_rs (s0 := [jR (some a900)]) (s1 := [jR (some 76)]) (by rw [w904.1]) ?_
  obtain ⟨q905, e906, e⟩ := jbind e
  refine ey_cv (s0 := [jR (some 76)]) (s1 := []) (st' := [jI q905.1]) (cd_403 rfl) mt_403 mt_330 rfl rfl rfl (by have w := jhm_is (m := jmf q898.2) w904.2.1; rw [w904.2.2.2] at w; exact w) rfl (jsml_s rfl) rfl (mm_Runs.up (d := 13) (by decide) (by have w := ok_330 (L := L) (xs := xs) (b := q898.2) (m := jmf q898.2) w904.2.1 w904.2.2.1 e906; rw [w904.2.2.2] at w; exact w)) ?_
  obtain ⟨h907, e908, e⟩ := jbind e
  obtain rfl : (jhm q898.2 q905.2) = h907 := Option.some.inj e908
  refine ey_istore (cd_403 rfl) mt_403 rfl ?_
  refine ey_aload_n (cd_403 rfl) f2 ?_
  obtain ⟨a909, e910, e⟩ := jbind e
  refine ey_rs (s0 := [jR x2]) (s1 := [jR (some a909)]) (by rw [e910]) ?_
  obtain ⟨u911, e912, e⟩ := jbind e
  have w913 := jlk_s e912
  refine ey_rs (s0 := [jR (some a909)]) (s1 := [jR (some 76)]) (by rw [w913.1]) ?_
  refine ey_cv (s0 := [jR (some 76)]) (s1 := []) (st' := [jI (jd_203 (jmf h907))]) (cd_403 rfl) mt_403 mt_203 rfl rfl rfl (by have w := jhm_is (m := jmf h907) w913.2.1; rw [w913.2.2.2] at w; exact w) rfl (jsml_s rfl) rfl (mm_Runs.up (d := 1) (by decide) (by have w := ok_203 (L := L) (xs := xs) (b := h907) (m := jmf h907) w913.2.1 w913.2.2.1 ; rw [w913.2.2.2] at w; exact w)) ?_
  refine ey_iload (cd_403 rfl) (jup_pi (lv := (jup lv 5 (jI q898.1))) (j := 5) (v := jI q905.1) (z := q898.1) rfl) ?_
  by_cases q914 : (jw (jd_203 (jmf h907))) = (jw q898.1)
  · rw [if_pos q914] at e
    refine ey_ceq (cd_403 rfl) rfl rfl rfl q914 ?_
    refine ey_iload (cd_403 rfl) (jup_pi (lv := (jup lv 5 (jI q898.1))) (j := 5) (v := jI q905.1) (z := q898.1) rfl) ?_
    by_cases q915 : (jw q898.1) = 0
    · rw [if_pos q915] at e
      refine ey_yne (cd_403 rfl) rfl rfl (fun w => w q915) ?_
      refine ey_aload_n (cd_403 rfl) f3 ?_
      refine ey_iconst (cd_403 rfl) ?_
      obtain ⟨a916, e917, e⟩ := jbind e
      refine ey_rs (s0 := [jI 0, jR x3]) (s1 := [jI 0, jR (some a916)]) (by rw [e917]) ?_
      obtain ⟨v918, e919, e⟩ := jbind e
      refine ey_lald (cd_403 rfl) e919 ?_
      refine ey_iload (cd_403 rfl) rfl ?_
      refine ey_i2l (cd_403 rfl) ?_
      refine ey_lcmp (cd_403 rfl) ?_
      by_cases q920 : (jwl v918) = (jw q905.1)
      · rw [if_pos q920] at e
        refine ey_zeq (cd_403 rfl) rfl rfl ((jlc_eq rfl (jwl_jw _)).mpr q920) ?_
        exact jk_403_b2199 e K (jup (jup lv 5 (jI q898.1)) 6 (jI q905.1)) f0 f1 f2 f3 (jup_o rfl (jup_pi (lv := lv) (j := 4) (v := jI q898.1) (z := x4) f4))
      · rw [if_neg q920] at e
        refine ey_yeq (cd_403 rfl) rfl rfl (fun w => q920 ((jlc_eq rfl (jwl_jw _)).mp w)) ?_
        cases e
    · rw [if_neg q915] at e
      refine ey_zne (cd_403 rfl) rfl rfl q915 ?_
      exact jk_403_b2199 e K (jup (jup lv 5 (jI q898.1)) 6 (jI q905.1)) f0 f1 f2 f3 (jup_o rfl (jup_pi (lv := lv) (j := 4) (v := jI q898.1) (z := x4) f4))
  · rw [if_neg q914] at e
    refine ey_neq (cd_403 rfl) rfl rfl rfl q914 ?_
    cases e
def jd_403_b2274 (L : Nat) (xs : Nat → Int32) (x1 : Option Nat) (x2 : Option Nat) (x3 : Option Nat) (x4 : Int) (h : jH) : Option ((Int × jH) ⊕ jH) :=
  jd_403_b3169 L xs x1 x2 x3 x4 h
set_option maxRecDepth 100000 in
theorem jk_403_b2274 {L : Nat} {xs : Nat → Int32} {x1 : Option Nat} {x2 : Option Nat} {x3 : Option Nat} {x4 : Int} {h : jH} {o : ((Int × jH) ⊕ jH)} {r : mm_R} (e : jd_403_b2274 L xs x1 x2 x3 x4 h = some o) (K : jsm (fun s => (∀ lv : jL, lv 0 = some (jR (some 1000000)) → lv 1 = some (jR x1) → lv 2 = some (jR x2) → lv 3 = some (jR x3) → lv 4 = some (jI s.1) → ey (mm_xt L xs) 72 403 23 lv [] s.2 r)) (fun x => (∀ lv : jL, ey (mm_xt L xs) 72 403 3175 lv [] x r)) o) : ∀ lv : jL, lv 0 = some (jR (some 1000000)) → lv 1 = some (jR x1) → lv 2 = some (jR x2) → lv 3 = some (jR x3) → lv 4 = some (jI x4) → ey (mm_xt L xs) 72 403 2274 lv [] h r := by
  intro lv f0 f1 f2 f3 f4
  unfold jd_403_b2274 at e
  refine ey_goto (cd_403 rfl) rfl ?_
  exact jk_403_b3169 e K lv f0 f1 f2 f3 f4
def jd_403_b2202 (L : Nat) (xs : Nat → Int32) (x1 : Option Nat) (x2 : Option Nat) (x3 : Option Nat) (x4 : Int) (h : jH) : Option ((Int × jH) ⊕ jH) :=
  ((jsc L xs (x4 + 1)).bind fun v922 => ((jsc L xs (x4 + 2)).bind fun v924 => ((jd_389 x1 v922 v924 x3 h).bind fun q926 => ((jsc L xs (x4 + 1)).bind fun v928 => ((jsc L xs (x4 + 2)).bind fun v930 => ((x2).bind fun a932 => ((jlk q926.2 a932).bind fun u934 => ((jd_331 v928 v930 (jmf q926.2)).bind fun q937 => ((some (jhm q926.2 q937.2)).bind fun h939 => ((x2).bind fun a941 => ((jlk h939 a941).bind fun u943 => (if (jw (jd_203 (jmf h939))) = (jw q926.1) then (if (jw q926.1) = 0 then ((x3).bind fun a948 => ((jal h939 a948 0).bind fun v950 => (if (jwl v950) = (jwl (if (jw q937.1) = 0 then 0 else 1)) then jd_403_b2274 L xs x1 x2 x3 x4 h939 else none))) else jd_403_b2274 L xs x1 x2 x3 x4 h939) else none))))))))))))
set_option maxRecDepth 100000 in
theorem jk_403_b2202 {L : Nat} {xs : Nat → Int32} {x1 : Option Nat} {x2 : Option Nat} {x3 : Option Nat} {x4 : Int} {h : jH} {o : ((Int × jH) ⊕ jH)} {r : mm_R} (e : jd_403_b2202 L xs x1 x2 x3 x4 h = some o) (K : jsm (fun s => (∀ lv : jL, lv 0 = some (jR (some 1000000)) → lv 1 = some (jR x1) → lv 2 = some (jR x2) → lv 3 = some (jR x3) → lv 4 = some (jI s.1) → ey (mm_xt L xs) 72 403 23 lv [] s.2 r)) (fun x => (∀ lv : jL, ey (mm_xt L xs) 72 403 3175 lv [] x r)) o) : ∀ lv : jL, lv 0 = some (jR (some 1000000)) → lv 1 = some (jR x1) → lv 2 = some (jR x2) → lv 3 = some (jR x3) → lv 4 = some (jI x4) → ey (mm_xt L xs) 72 403 2202 lv [] h r := by
  intro lv f0 f1 f2 f3 f4
  unfold jd_403_b2202 at e
  refine ey_aload_n (cd_403 rfl) f1 ?_
  refine ey_aload_n (cd_403 rfl) f0 ?_
  refine ey_iload (cd_403 rfl) f4 ?_
  refine ey_iconst (cd_403 rfl) ?_
  refine ey_iadd (cd_403 rfl) ?_
  obtain ⟨v922, e923, e⟩ := jbind e
  refine ey_iasc (cd_403 rfl) e923 ?_
  refine ey_aload_n (cd_403 rfl) f0 ?_
  refine ey_iload (cd_403 rfl) f4 ?_
  refine ey_iconst (cd_403 rfl) ?_
  refine ey_iadd (cd_403 rfl) ?_
  obtain ⟨v924, e925, e⟩ := jbind e
  refine ey_iasc (cd_403 rfl) e925 ?_
  refine ey_aload_n (cd_403 rfl) f3 ?_
  obtain ⟨q926, e927, e⟩ := jbind e
  refine ey_cs (s0 := [jR x3, jI v924, jI v922, jR x1]) (s1 := []) (st' := [jI q926.1]) (cd_403 rfl) mt_403 mt_389 rfl (by decide) rfl rfl (jsml_s rfl) rfl (mm_Runs.up (d := 3) (by decide) (ok_389 e927)) ?_
  refine ey_istore (cd_403 rfl) mt_403 rfl ?_
  refine ey_aload_n (cd_403 rfl) f2 ?_
  refine ey_aload_n (cd_403 rfl) f0 ?_
  refine ey_iload (cd_403 rfl) (jup_pi (lv := lv) (j := 4) (v := jI q926.1) (z := x4) f4) ?_
  refine ey_iconst (cd_403 rfl) ?_
  refine ey_iadd (cd_403 rfl) ?_
  obtain ⟨v928, e929, e⟩ := jbind e
  refine ey_iasc (cd_403 rfl) e929 ?_
  refine ey_aload_n (cd_403 rfl) f0 ?_
  refine ey_iload (cd_403 rfl) (jup_pi (lv := lv) (j := 4) (v := jI q926.1) (z := x4) f4) ?_
  refine ey_iconst (cd_403 rfl) ?_
  refine ey_iadd (cd_403 rfl) ?_
  obtain ⟨v930, e931, e⟩ := jbind e
  refine ey_iasc (cd_403 rfl) e931 ?_
  obtain ⟨a932, e933, e⟩ := jbind e
  refine ey_rs (s0 := [jI v930, jI v928, jR x2]) (s1 := [jI v930, jI v928, jR (some a932)]) (by rw [e933]) ?_
  obtain ⟨u934, e935, e⟩ := jbind e
  have w936 := jlk_s e935
  refine ey_rs (s0 := [jI v930, jI v928, jR (some a932)]) (s1 := [jI v930, jI v928, jR (some 76)]) (by rw [w936.1]) ?_
  obtain ⟨q937, e938, e⟩ := jbind e
  refine ey_cv (s0 := [jI v930, jI v928, jR (some 76)]) (s1 := []) (st' := [jI q937.1]) (cd_403 rfl) mt_403 mt_331 rfl rfl rfl (by have w := jhm_is (m := jmf q926.2) w936.2.1; rw [w936.2.2.2] at w; exact w) rfl (jsml_s rfl) rfl (mm_Runs.up (d := 4) (by decide) (by have w := ok_331 (L := L) (xs := xs) (b := q926.2) (m := jmf q926.2) w936.2.1 w936.2.2.1 e938; rw [w936.2.2.2] at w; exact w)) ?_
  obtain ⟨h939, e940, e⟩ := jbind e
  obtain rfl : (jhm q926.2 q937.2) = h939 := Option.some.inj e940
  refine ey_istore (cd_403 rfl) mt_403 rfl ?_
  refine ey_aload_n (cd_403 rfl) f2 ?_
  obtain ⟨a941, e942, e⟩ := jbind e
  refine ey_rs (s0 := [jR x2]) (s1 := [jR (some a941)]) (by rw [e942]) ?_
  obtain ⟨u943, e944, e⟩ := jbind e
  have w945 := jlk_s e944
  refine ey_rs (s0 := [jR (some a941)]) (s1 := [jR (some 76)]) (by rw [w945.1]) ?_
  refine ey_cv (s0 := [jR (some 76)]) (s1 := []) (st' := [jI (jd_203 (jmf h939))]) (cd_403 rfl) mt_403 mt_203 rfl rfl rfl (by have w := jhm_is (m := jmf h939) w945.2.1; rw [w945.2.2.2] at w; exact w) rfl (jsml_s rfl) rfl (mm_Runs.up (d := 1) (by decide) (by have w := ok_203 (L := L) (xs := xs) (b := h939) (m := jmf h939) w945.2.1 w945.2.2.1 ; rw [w945.2.2.2] at w; exact w)) ?_
  refine ey_iload (cd_403 rfl) (jup_pi (lv := (jup lv 5 (jI q926.1))) (j := 5) (v := jI q937.1) (z := q926.1) rfl) ?_
  by_cases q946 : (jw (jd_203 (jmf h939))) = (jw q926.1)
  · rw [if_pos q946] at e
    refine ey_ceq (cd_403 rfl) rfl rfl rfl q946 ?_
    refine ey_iload (cd_403 rfl) (jup_pi (lv := (jup lv 5 (jI q926.1))) (j := 5) (v := jI q937.1) (z := q926.1) rfl) ?_
    by_cases q947 : (jw q926.1) = 0
    · rw [if_pos q947] at e
      refine ey_yne (cd_403 rfl) rfl rfl (fun w => w q947) ?_
      refine ey_aload_n (cd_403 rfl) f3 ?_
      refine ey_iconst (cd_403 rfl) ?_
      obtain ⟨a948, e949, e⟩ := jbind e
      refine ey_rs (s0 := [jI 0, jR x3]) (s1 := [jI 0, jR (some a948)]) (by rw [e949]) ?_
      obtain ⟨v950, e951, e⟩ := jbind e
      refine ey_lald (cd_403 rfl) e951 ?_
      refine ey_iload (cd_403 rfl) rfl ?_
      have K953 : ∀ lv : jL, lv 0 = some (jR (some 1000000)) → lv 1 = some (jR x1) → lv 2 = some (jR x2) → lv 3 = some (jR x3) → lv 4 = some (jI x4) → ey (mm_xt L xs) 72 403 2268 lv [jJ (if (jw q937.1) = 0 then 0 else 1), jJ v950] h939 r := by
        intro lv g0 g1 g2 g3 g4
        refine ey_lcmp (cd_403 rfl) ?_
        by_cases q952 : (jwl v950) = (jwl (if (jw q937.1) = 0 then 0 else 1))
        · rw [if_pos q952] at e
          refine ey_zeq (cd_403 rfl) rfl rfl ((jlc_eq rfl rfl).mpr q952) ?_
          exact jk_403_b2274 e K lv g0 g1 g2 g3 g4
        · rw [if_neg q952] at e
          refine ey_yeq (cd_403 rfl) rfl rfl (fun w => q952 ((jlc_eq rfl rfl).mp w)) ?_
          cases e
      by_cases q954 : (jw q937.1) = 0
      · refine ey_zeq (cd_403 rfl) rfl rfl q954 ?_
        refine ey_lconst0 (cd_403 rfl) ?_
        exact ey_rs (s0 := [jJ 0, jJ v950]) (s1 := [jJ (if (jw q937.1) = 0 then 0 else 1), jJ v950]) (by rw [show ((if (jw q937.1) = 0 then 0 else 1) : Int) = 0 from (if_pos q954)]) (K953 (jup (jup lv 5 (jI q926.1)) 6 (jI q937.1)) f0 f1 f2 f3 (jup_o rfl (jup_pi (lv := lv) (j := 4) (v := jI q926.1) (z := x4) f4)))
      · refine ey_yeq (cd_403 rfl) rfl rfl q954 ?_
        refine ey_lconst1 (cd_403 rfl) ?_
        refine ey_goto (cd_403 rfl) rfl ?_
        exact ey_rs (s0 := [jJ 1, jJ v950]) (s1 := [jJ (if (jw q937.1) = 0 then 0 else 1), jJ v950]) (by rw [show ((if (jw q937.1) = 0 then 0 else 1) : Int) = 1 from (if_neg q954)]) (K953 (jup (jup lv 5 (jI q926.1)) 6 (jI q937.1)) f0 f1 f2 f3 (jup_o rfl (jup_pi (lv := lv) (j := 4) (v := jI q926.1) (z := x4) f4)))
    · rw [if_neg q947] at e
      refine ey_zne (cd_403 rfl) rfl rfl q947 ?_
      exact jk_403_b2274 e K (jup (jup lv 5 (jI q926.1)) 6 (jI q937.1)) f0 f1 f2 f3 (jup_o rfl (jup_pi (lv := lv) (j := 4) (v := jI q926.1) (z := x4) f4))
  · rw [if_neg q946] at e
    refine ey_neq (cd_403 rfl) rfl rfl rfl q946 ?_
    cases e
def jd_403_b2277 (L : Nat) (xs : Nat → Int32) (x1 : Option Nat) (x2 : Option Nat) (x3 : Option Nat) (x4 : Int) (h : jH) : Option ((Int × jH) ⊕ jH) :=
  ((x1).bind fun a956 => ((jck h a956 11).bind fun u958 => ((jd_168 a956 h).bind fun q960 => ((x2).bind fun a962 => ((jlk q960.2 a962).bind fun u964 => ((jd_332 (jmf q960.2)).bind fun q967 => ((some (jhm q960.2 q967.2)).bind fun h969 => (if (jw q960.1) = (jw q967.1) then jd_403_b3169 L xs x1 x2 x3 x4 h969 else none))))))))
set_option maxRecDepth 100000 in
theorem jk_403_b2277 {L : Nat} {xs : Nat → Int32} {x1 : Option Nat} {x2 : Option Nat} {x3 : Option Nat} {x4 : Int} {h : jH} {o : ((Int × jH) ⊕ jH)} {r : mm_R} (e : jd_403_b2277 L xs x1 x2 x3 x4 h = some o) (K : jsm (fun s => (∀ lv : jL, lv 0 = some (jR (some 1000000)) → lv 1 = some (jR x1) → lv 2 = some (jR x2) → lv 3 = some (jR x3) → lv 4 = some (jI s.1) → ey (mm_xt L xs) 72 403 23 lv [] s.2 r)) (fun x => (∀ lv : jL, ey (mm_xt L xs) 72 403 3175 lv [] x r)) o) : ∀ lv : jL, lv 0 = some (jR (some 1000000)) → lv 1 = some (jR x1) → lv 2 = some (jR x2) → lv 3 = some (jR x3) → lv 4 = some (jI x4) → ey (mm_xt L xs) 72 403 2277 lv [] h r := by
  intro lv f0 f1 f2 f3 f4
  unfold jd_403_b2277 at e
  refine ey_aload_n (cd_403 rfl) f1 ?_
  obtain ⟨a956, e957, e⟩ := jbind e
  refine ey_rs (s0 := [jR x1]) (s1 := [jR (some a956)]) (by rw [e957]) ?_
  obtain ⟨u958, e959, e⟩ := jbind e
  obtain ⟨q960, e961, e⟩ := jbind e
  refine ey_cv (s0 := [jR (some a956)]) (s1 := []) (st' := [jI q960.1]) (cd_403 rfl) mt_403 mt_168 rfl rfl rfl (jck_s e959) rfl (jsml_s rfl) rfl (mm_Runs.up (d := 1) (by decide) (ok_168 e961)) ?_
  refine ey_aload_n (cd_403 rfl) f2 ?_
  obtain ⟨a962, e963, e⟩ := jbind e
  refine ey_rs (s0 := [jR x2, jI q960.1]) (s1 := [jR (some a962), jI q960.1]) (by rw [e963]) ?_
  obtain ⟨u964, e965, e⟩ := jbind e
  have w966 := jlk_s e965
  refine ey_rs (s0 := [jR (some a962), jI q960.1]) (s1 := [jR (some 76), jI q960.1]) (by rw [w966.1]) ?_
  obtain ⟨q967, e968, e⟩ := jbind e
  refine ey_cv (s0 := [jR (some 76), jI q960.1]) (s1 := [jI q960.1]) (st' := [jI q967.1, jI q960.1]) (cd_403 rfl) mt_403 mt_332 rfl rfl rfl (by have w := jhm_is (m := jmf q960.2) w966.2.1; rw [w966.2.2.2] at w; exact w) rfl (jsml_s rfl) rfl (mm_Runs.up (d := 1) (by decide) (by have w := ok_332 (L := L) (xs := xs) (b := q960.2) (m := jmf q960.2) w966.2.1 w966.2.2.1 e968; rw [w966.2.2.2] at w; exact w)) ?_
  obtain ⟨h969, e970, e⟩ := jbind e
  obtain rfl : (jhm q960.2 q967.2) = h969 := Option.some.inj e970
  by_cases q971 : (jw q960.1) = (jw q967.1)
  · rw [if_pos q971] at e
    refine ey_ceq (cd_403 rfl) rfl rfl rfl q971 ?_
    exact jk_403_b3169 e K lv f0 f1 f2 f3 f4
  · rw [if_neg q971] at e
    refine ey_neq (cd_403 rfl) rfl rfl rfl q971 ?_
    cases e
def jd_403_b2331 (L : Nat) (xs : Nat → Int32) (x1 : Option Nat) (x2 : Option Nat) (x3 : Option Nat) (x4 : Int) (h : jH) : Option ((Int × jH) ⊕ jH) :=
  jd_403_b3169 L xs x1 x2 x3 x4 h
set_option maxRecDepth 100000 in
theorem jk_403_b2331 {L : Nat} {xs : Nat → Int32} {x1 : Option Nat} {x2 : Option Nat} {x3 : Option Nat} {x4 : Int} {h : jH} {o : ((Int × jH) ⊕ jH)} {r : mm_R} (e : jd_403_b2331 L xs x1 x2 x3 x4 h = some o) (K : jsm (fun s => (∀ lv : jL, lv 0 = some (jR (some 1000000)) → lv 1 = some (jR x1) → lv 2 = some (jR x2) → lv 3 = some (jR x3) → lv 4 = some (jI s.1) → ey (mm_xt L xs) 72 403 23 lv [] s.2 r)) (fun x => (∀ lv : jL, ey (mm_xt L xs) 72 403 3175 lv [] x r)) o) : ∀ lv : jL, lv 0 = some (jR (some 1000000)) → lv 1 = some (jR x1) → lv 2 = some (jR x2) → lv 3 = some (jR x3) → lv 4 = some (jI x4) → ey (mm_xt L xs) 72 403 2331 lv [] h r := by
  intro lv f0 f1 f2 f3 f4
  unfold jd_403_b2331 at e
  refine ey_goto (cd_403 rfl) rfl ?_
  exact jk_403_b3169 e K lv f0 f1 f2 f3 f4
def jd_403_b2290 (L : Nat) (xs : Nat → Int32) (x1 : Option Nat) (x2 : Option Nat) (x3 : Option Nat) (x4 : Int) (h : jH) : Option ((Int × jH) ⊕ jH) :=
  ((jd_390 x1 x3 h).bind fun q973 => ((x2).bind fun a975 => ((jlk q973.2 a975).bind fun u977 => ((jd_344 (jmf q973.2)).bind fun q980 => ((some (jhm q973.2 q980.2)).bind fun h982 => ((x2).bind fun a984 => ((jlk h982 a984).bind fun u986 => (if (jw (jd_203 (jmf h982))) = (jw q973.1) then (if (jw q973.1) = 0 then ((x3).bind fun a991 => ((jal h982 a991 0).bind fun v993 => (if (jwl v993) = (jw q980.1) then jd_403_b2331 L xs x1 x2 x3 x4 h982 else none))) else jd_403_b2331 L xs x1 x2 x3 x4 h982) else none))))))))
set_option maxRecDepth 100000 in
theorem jk_403_b2290 {L : Nat} {xs : Nat → Int32} {x1 : Option Nat} {x2 : Option Nat} {x3 : Option Nat} {x4 : Int} {h : jH} {o : ((Int × jH) ⊕ jH)} {r : mm_R} (e : jd_403_b2290 L xs x1 x2 x3 x4 h = some o) (K : jsm (fun s => (∀ lv : jL, lv 0 = some (jR (some 1000000)) → lv 1 = some (jR x1) → lv 2 = some (jR x2) → lv 3 = some (jR x3) → lv 4 = some (jI s.1) → ey (mm_xt L xs) 72 403 23 lv [] s.2 r)) (fun x => (∀ lv : jL, ey (mm_xt L xs) 72 403 3175 lv [] x r)) o) : ∀ lv : jL, lv 0 = some (jR (some 1000000)) → lv 1 = some (jR x1) → lv 2 = some (jR x2) → lv 3 = some (jR x3) → lv 4 = some (jI x4) → ey (mm_xt L xs) 72 403 2290 lv [] h r := by
  intro lv f0 f1 f2 f3 f4
  unfold jd_403_b2290 at e
  refine ey_aload_n (cd_403 rfl) f1 ?_
  refine ey_aload_n (cd_403 rfl) f3 ?_
  obtain ⟨q973, e974, e⟩ := jbind e
  refine ey_cs (s0 := [jR x3, jR x1]) (s1 := []) (st' := [jI q973.1]) (cd_403 rfl) mt_403 mt_390 rfl (by decide) rfl rfl (jsml_s rfl) rfl (ok_390 e974) ?_
  refine ey_istore (cd_403 rfl) mt_403 rfl ?_
  refine ey_aload_n (cd_403 rfl) f2 ?_
  obtain ⟨a975, e976, e⟩ := jbind e
  refine ey_rs (s0 := [jR x2]) (s1 := [jR (some a975)]) (by rw [e976]) ?_
  obtain ⟨u977, e978, e⟩ := jbind e
  have w979 := jlk_s e978
  refine ey_rs (s0 := [jR (some a975)]) (s1 := [jR (some 76)]) (by rw [w979.1]) ?_
  obtain ⟨q980, e981, e⟩ := jbind e
  refine ey_cv (s0 := [jR (some 76)]) (s1 := []) (st' := [jI q980.1]) (cd_403 rfl) mt_403 mt_344 rfl rfl rfl (by have w := jhm_is (m := jmf q973.2) w979.2.1; rw [w979.2.2.2] at w; exact w) rfl (jsml_s rfl) rfl (mm_Runs.up (d := 4) (by decide) (by have w := ok_344 (L := L) (xs := xs) (b := q973.2) (m := jmf q973.2) w979.2.1 w979.2.2.1 e981; rw [w979.2.2.2] at w; exact w)) ?_
  obtain ⟨h982, e983, e⟩ := jbind e
  obtain rfl : (jhm q973.2 q980.2) = h982 := Option.some.inj e983
  refine ey_istore (cd_403 rfl) mt_403 rfl ?_
  refine ey_aload_n (cd_403 rfl) f2 ?_
  obtain ⟨a984, e985, e⟩ := jbind e
  refine ey_rs (s0 := [jR x2]) (s1 := [jR (some a984)]) (by rw [e985]) ?_
  obtain ⟨u986, e987, e⟩ := jbind e
  have w988 := jlk_s e987
  refine ey_rs (s0 := [jR (some a984)]) (s1 := [jR (some 76)]) (by rw [w988.1]) ?_
  refine ey_cv (s0 := [jR (some 76)]) (s1 := []) (st' := [jI (jd_203 (jmf h982))]) (cd_403 rfl) mt_403 mt_203 rfl rfl rfl (by have w := jhm_is (m := jmf h982) w988.2.1; rw [w988.2.2.2] at w; exact w) rfl (jsml_s rfl) rfl (mm_Runs.up (d := 1) (by decide) (by have w := ok_203 (L := L) (xs := xs) (b := h982) (m := jmf h982) w988.2.1 w988.2.2.1 ; rw [w988.2.2.2] at w; exact w)) ?_
  refine ey_iload (cd_403 rfl) (jup_pi (lv := (jup lv 5 (jI q973.1))) (j := 5) (v := jI q980.1) (z := q973.1) rfl) ?_
  by_cases q989 : (jw (jd_203 (jmf h982))) = (jw q973.1)
  · rw [if_pos q989] at e
    refine ey_ceq (cd_403 rfl) rfl rfl rfl q989 ?_
    refine ey_iload (cd_403 rfl) (jup_pi (lv := (jup lv 5 (jI q973.1))) (j := 5) (v := jI q980.1) (z := q973.1) rfl) ?_
    by_cases q990 : (jw q973.1) = 0
    · rw [if_pos q990] at e
      refine ey_yne (cd_403 rfl) rfl rfl (fun w => w q990) ?_
      refine ey_aload_n (cd_403 rfl) f3 ?_
      refine ey_iconst (cd_403 rfl) ?_
      obtain ⟨a991, e992, e⟩ := jbind e
      refine ey_rs (s0 := [jI 0, jR x3]) (s1 := [jI 0, jR (some a991)]) (by rw [e992]) ?_
      obtain ⟨v993, e994, e⟩ := jbind e
      refine ey_lald (cd_403 rfl) e994 ?_
      refine ey_iload (cd_403 rfl) rfl ?_
      refine ey_i2l (cd_403 rfl) ?_
      refine ey_lcmp (cd_403 rfl) ?_
      by_cases q995 : (jwl v993) = (jw q980.1)
      · rw [if_pos q995] at e
        refine ey_zeq (cd_403 rfl) rfl rfl ((jlc_eq rfl (jwl_jw _)).mpr q995) ?_
        exact jk_403_b2331 e K (jup (jup lv 5 (jI q973.1)) 6 (jI q980.1)) f0 f1 f2 f3 (jup_o rfl (jup_pi (lv := lv) (j := 4) (v := jI q973.1) (z := x4) f4))
      · rw [if_neg q995] at e
        refine ey_yeq (cd_403 rfl) rfl rfl (fun w => q995 ((jlc_eq rfl (jwl_jw _)).mp w)) ?_
        cases e
    · rw [if_neg q990] at e
      refine ey_zne (cd_403 rfl) rfl rfl q990 ?_
      exact jk_403_b2331 e K (jup (jup lv 5 (jI q973.1)) 6 (jI q980.1)) f0 f1 f2 f3 (jup_o rfl (jup_pi (lv := lv) (j := 4) (v := jI q973.1) (z := x4) f4))
  · rw [if_neg q989] at e
    refine ey_neq (cd_403 rfl) rfl rfl rfl q989 ?_
    cases e
def jd_403_b2411 (L : Nat) (xs : Nat → Int32) (x1 : Option Nat) (x2 : Option Nat) (x3 : Option Nat) (x4 : Int) (h : jH) : Option ((Int × jH) ⊕ jH) :=
  jd_403_b3169 L xs x1 x2 x3 x4 h
set_option maxRecDepth 100000 in
theorem jk_403_b2411 {L : Nat} {xs : Nat → Int32} {x1 : Option Nat} {x2 : Option Nat} {x3 : Option Nat} {x4 : Int} {h : jH} {o : ((Int × jH) ⊕ jH)} {r : mm_R} (e : jd_403_b2411 L xs x1 x2 x3 x4 h = some o) (K : jsm (fun s => (∀ lv : jL, lv 0 = some (jR (some 1000000)) → lv 1 = some (jR x1) → lv 2 = some (jR x2) → lv 3 = some (jR x3) → lv 4 = some (jI s.1) → ey (mm_xt L xs) 72 403 23 lv [] s.2 r)) (fun x => (∀ lv : jL, ey (mm_xt L xs) 72 403 3175 lv [] x r)) o) : ∀ lv : jL, lv 0 = some (jR (some 1000000)) → lv 1 = some (jR x1) → lv 2 = some (jR x2) → lv 3 = some (jR x3) → lv 4 = some (jI x4) → ey (mm_xt L xs) 72 403 2411 lv [] h r := by
  intro lv f0 f1 f2 f3 f4
  unfold jd_403_b2411 at e
  refine ey_goto (cd_403 rfl) rfl ?_
  exact jk_403_b3169 e K lv f0 f1 f2 f3 f4
def jd_403_b2334 (L : Nat) (xs : Nat → Int32) (x1 : Option Nat) (x2 : Option Nat) (x3 : Option Nat) (x4 : Int) (h : jH) : Option ((Int × jH) ⊕ jH) :=
  ((jsc L xs (x4 + 1)).bind fun v997 => ((jsc L xs (x4 + 2)).bind fun v999 => ((jsc L xs (x4 + 3)).bind fun v1001 => ((jd_391 x1 v997 v999 v1001 x3 h).bind fun q1003 => ((jsc L xs (x4 + 1)).bind fun v1005 => ((jsc L xs (x4 + 2)).bind fun v1007 => ((jsc L xs (x4 + 3)).bind fun v1009 => ((x2).bind fun a1011 => ((jlk q1003.2 a1011).bind fun u1013 => ((jd_347 v1005 v1007 v1009 (jmf q1003.2)).bind fun q1016 => ((some (jhm q1003.2 q1016.2)).bind fun h1018 => ((x2).bind fun a1020 => ((jlk h1018 a1020).bind fun u1022 => (if (jw (jd_203 (jmf h1018))) = (jw q1003.1) then (if (jw q1003.1) = 0 then ((x3).bind fun a1027 => ((jal h1018 a1027 0).bind fun v1029 => (if (jwl v1029) = (jw q1016.1) then jd_403_b2411 L xs x1 x2 x3 x4 h1018 else none))) else jd_403_b2411 L xs x1 x2 x3 x4 h1018) else none))))))))))))))
set_option maxRecDepth 100000 in
theorem jk_403_b2334 {L : Nat} {xs : Nat → Int32} {x1 : Option Nat} {x2 : Option Nat} {x3 : Option Nat} {x4 : Int} {h : jH} {o : ((Int × jH) ⊕ jH)} {r : mm_R} (e : jd_403_b2334 L xs x1 x2 x3 x4 h = some o) (K : jsm (fun s => (∀ lv : jL, lv 0 = some (jR (some 1000000)) → lv 1 = some (jR x1) → lv 2 = some (jR x2) → lv 3 = some (jR x3) → lv 4 = some (jI s.1) → ey (mm_xt L xs) 72 403 23 lv [] s.2 r)) (fun x => (∀ lv : jL, ey (mm_xt L xs) 72 403 3175 lv [] x r)) o) : ∀ lv : jL, lv 0 = some (jR (some 1000000)) → lv 1 = some (jR x1) → lv 2 = some (jR x2) → lv 3 = some (jR x3) → lv 4 = some (jI x4) → ey (mm_xt L xs) 72 403 2334 lv [] h r := by
  intro lv f0 f1 f2 f3 f4
  unfold jd_403_b2334 at e
  refine ey_aload_n (cd_403 rfl) f1 ?_
  refine ey_aload_n (cd_403 rfl) f0 ?_
  refine ey_iload (cd_403 rfl) f4 ?_
  refine ey_iconst (cd_403 rfl) ?_
  refine ey_iadd (cd_403 rfl) ?_
  obtain ⟨v997, e998, e⟩ := jbind e
  refine ey_iasc (cd_403 rfl) e998 ?_
  refine ey_aload_n (cd_403 rfl) f0 ?_
  refine ey_iload (cd_403 rfl) f4 ?_
  refine ey_iconst (cd_403 rfl) ?_
  refine ey_iadd (cd_403 rfl) ?_
  obtain ⟨v999, e1000, e⟩ := jbind e
  refine ey_iasc (cd_403 rfl) e1000 ?_
  refine ey_aload_n (cd_403 rfl) f0 ?_
  refine ey_iload (cd_403 rfl) f4 ?_
  refine ey_iconst (cd_403 rfl) ?_
  refine ey_iadd (cd_403 rfl) ?_
  obtain ⟨v1001, e1002, e⟩ := jbind e
  refine ey_iasc (cd_403 rfl) e1002 ?_
  refine ey_aload_n (cd_403 rfl) f3 ?_
  obtain ⟨q1003, e1004, e⟩ := jbind e
  refine ey_cs (s0 := [jR x3, jI v1001, jI v999, jI v997, jR x1]) (s1 := []) (st' := [jI q1003.1]) (cd_403 rfl) mt_403 mt_391 rfl (by decide) rfl rfl (jsml_s rfl) rfl (mm_Runs.up (d := 5) (by decide) (ok_391 e1004)) ?_
  refine ey_istore (cd_403 rfl) mt_403 rfl ?_
  refine ey_aload_n (cd_403 rfl) f2 ?_
  refine ey_aload_n (cd_403 rfl) f0 ?_
  refine ey_iload (cd_403 rfl) (jup_pi (lv := lv) (j := 4) (v := jI q1003.1) (z := x4) f4) ?_
  refine ey_iconst (cd_403 rfl) ?_
  refine ey_iadd (cd_403 rfl) ?_
  obtain ⟨v1005, e1006, e⟩ := jbind e
  refine ey_iasc (cd_403 rfl) e1006 ?_
  refine ey_aload_n (cd_403 rfl) f0 ?_
  refine ey_iload (cd_403 rfl) (jup_pi (lv := lv) (j := 4) (v := jI q1003.1) (z := x4) f4) ?_
  refine ey_iconst (cd_403 rfl) ?_
  refine ey_iadd (cd_403 rfl) ?_
  obtain ⟨v1007, e1008, e⟩ := jbind e
  refine ey_iasc (cd_403 rfl) e1008 ?_
  refine ey_aload_n (cd_403 rfl) f0 ?_
  refine ey_iload (cd_403 rfl) (jup_pi (lv := lv) (j := 4) (v := jI q1003.1) (z := x4) f4) ?_
  refine ey_iconst (cd_403 rfl) ?_
  refine ey_iadd (cd_403 rfl) ?_
  obtain ⟨v1009, e1010, e⟩ := jbind e
  refine ey_iasc (cd_403 rfl) e1010 ?_
  obtain ⟨a1011, e1012, e⟩ := jbind e
  refine ey_rs (s0 := [jI v1009, jI v1007, jI v1005, jR x2]) (s1 := [jI v1009, jI v1007, jI v1005, jR (some a1011)]) (by rw [e1012]) ?_
  obtain ⟨u1013, e1014, e⟩ := jbind e
  have w1015 := jlk_s e1014
  refine ey_rs (s0 := [jI v1009, jI v1007, jI v1005, jR (some a1011)]) (s1 := [jI v1009, jI v1007, jI v1005, jR (some 76)]) (by rw [w1015.1]) ?_
  obtain ⟨q1016, e1017, e⟩ := jbind e
  refine ey_cv (s0 := [jI v1009, jI v1007, jI v1005, jR (some 76)]) (s1 := []) (st' := [jI q1016.1]) (cd_403 rfl) mt_403 mt_347 rfl rfl rfl (by have w := jhm_is (m := jmf q1003.2) w1015.2.1; rw [w1015.2.2.2] at w; exact w) rfl (jsml_s rfl) rfl (mm_Runs.up (d := 4) (by decide) (by have w := ok_347 (L := L) (xs := xs) (b := q1003.2) (m := jmf q1003.2) w1015.2.1 w1015.2.2.1 e1017; rw [w1015.2.2.2] at w; exact w)) ?_
  obtain ⟨h1018, e1019, e⟩ := jbind e
  obtain rfl : (jhm q1003.2 q1016.2) = h1018 := Option.some.inj e1019
  refine ey_istore (cd_403 rfl) mt_403 rfl ?_
  refine ey_aload_n (cd_403 rfl) f2 ?_
  obtain ⟨a1020, e1021, e⟩ := jbind e
  refine ey_rs (s0 := [jR x2]) (s1 := [jR (some a1020)]) (by rw [e1021]) ?_
  obtain ⟨u1022, e1023, e⟩ := jbind e
  have w1024 := jlk_s e1023
  refine ey_rs (s0 := [jR (some a1020)]) (s1 := [jR (some 76)]) (by rw [w1024.1]) ?_
  refine ey_cv (s0 := [jR (some 76)]) (s1 := []) (st' := [jI (jd_203 (jmf h1018))]) (cd_403 rfl) mt_403 mt_203 rfl rfl rfl (by have w := jhm_is (m := jmf h1018) w1024.2.1; rw [w1024.2.2.2] at w; exact w) rfl (jsml_s rfl) rfl (mm_Runs.up (d := 1) (by decide) (by have w := ok_203 (L := L) (xs := xs) (b := h1018) (m := jmf h1018) w1024.2.1 w1024.2.2.1 ; rw [w1024.2.2.2] at w; exact w)) ?_
  refine ey_iload (cd_403 rfl) (jup_pi (lv := (jup lv 5 (jI q1003.1))) (j := 5) (v := jI q1016.1) (z := q1003.1) rfl) ?_
  by_cases q1025 : (jw (jd_203 (jmf h1018))) = (jw q1003.1)
  · rw [if_pos q1025] at e
    refine ey_ceq (cd_403 rfl) rfl rfl rfl q1025 ?_
    refine ey_iload (cd_403 rfl) (jup_pi (lv := (jup lv 5 (jI q1003.1))) (j := 5) (v := jI q1016.1) (z := q1003.1) rfl) ?_
    by_cases q1026 : (jw q1003.1) = 0
    · rw [if_pos q1026] at e
      refine ey_yne (cd_403 rfl) rfl rfl (fun w => w q1026) ?_
      refine ey_aload_n (cd_403 rfl) f3 ?_
      refine ey_iconst (cd_403 rfl) ?_
      obtain ⟨a1027, e1028, e⟩ := jbind e
      refine ey_rs (s0 := [jI 0, jR x3]) (s1 := [jI 0, jR (some a1027)]) (by rw [e1028]) ?_
      obtain ⟨v1029, e1030, e⟩ := jbind e
      refine ey_lald (cd_403 rfl) e1030 ?_
      refine ey_iload (cd_403 rfl) rfl ?_
      refine ey_i2l (cd_403 rfl) ?_
      refine ey_lcmp (cd_403 rfl) ?_
      by_cases q1031 : (jwl v1029) = (jw q1016.1)
      · rw [if_pos q1031] at e
        refine ey_zeq (cd_403 rfl) rfl rfl ((jlc_eq rfl (jwl_jw _)).mpr q1031) ?_
        exact jk_403_b2411 e K (jup (jup lv 5 (jI q1003.1)) 6 (jI q1016.1)) f0 f1 f2 f3 (jup_o rfl (jup_pi (lv := lv) (j := 4) (v := jI q1003.1) (z := x4) f4))
      · rw [if_neg q1031] at e
        refine ey_yeq (cd_403 rfl) rfl rfl (fun w => q1031 ((jlc_eq rfl (jwl_jw _)).mp w)) ?_
        cases e
    · rw [if_neg q1026] at e
      refine ey_zne (cd_403 rfl) rfl rfl q1026 ?_
      exact jk_403_b2411 e K (jup (jup lv 5 (jI q1003.1)) 6 (jI q1016.1)) f0 f1 f2 f3 (jup_o rfl (jup_pi (lv := lv) (j := 4) (v := jI q1003.1) (z := x4) f4))
  · rw [if_neg q1025] at e
    refine ey_neq (cd_403 rfl) rfl rfl rfl q1025 ?_
    cases e
def jd_403_b2491 (L : Nat) (xs : Nat → Int32) (x1 : Option Nat) (x2 : Option Nat) (x3 : Option Nat) (x4 : Int) (h : jH) : Option ((Int × jH) ⊕ jH) :=
  jd_403_b3169 L xs x1 x2 x3 x4 h
set_option maxRecDepth 100000 in
theorem jk_403_b2491 {L : Nat} {xs : Nat → Int32} {x1 : Option Nat} {x2 : Option Nat} {x3 : Option Nat} {x4 : Int} {h : jH} {o : ((Int × jH) ⊕ jH)} {r : mm_R} (e : jd_403_b2491 L xs x1 x2 x3 x4 h = some o) (K : jsm (fun s => (∀ lv : jL, lv 0 = some (jR (some 1000000)) → lv 1 = some (jR x1) → lv 2 = some (jR x2) → lv 3 = some (jR x3) → lv 4 = some (jI s.1) → ey (mm_xt L xs) 72 403 23 lv [] s.2 r)) (fun x => (∀ lv : jL, ey (mm_xt L xs) 72 403 3175 lv [] x r)) o) : ∀ lv : jL, lv 0 = some (jR (some 1000000)) → lv 1 = some (jR x1) → lv 2 = some (jR x2) → lv 3 = some (jR x3) → lv 4 = some (jI x4) → ey (mm_xt L xs) 72 403 2491 lv [] h r := by
  intro lv f0 f1 f2 f3 f4
  unfold jd_403_b2491 at e
  refine ey_goto (cd_403 rfl) rfl ?_
  exact jk_403_b3169 e K lv f0 f1 f2 f3 f4
def jd_403_b2414 (L : Nat) (xs : Nat → Int32) (x1 : Option Nat) (x2 : Option Nat) (x3 : Option Nat) (x4 : Int) (h : jH) : Option ((Int × jH) ⊕ jH) :=
  ((jsc L xs (x4 + 1)).bind fun v1033 => ((jsc L xs (x4 + 2)).bind fun v1035 => ((jsc L xs (x4 + 3)).bind fun v1037 => ((jd_392 x1 v1033 v1035 v1037 x3 h).bind fun q1039 => ((jsc L xs (x4 + 1)).bind fun v1041 => ((jsc L xs (x4 + 2)).bind fun v1043 => ((jsc L xs (x4 + 3)).bind fun v1045 => ((x2).bind fun a1047 => ((jlk q1039.2 a1047).bind fun u1049 => ((jd_348 v1041 v1043 v1045 (jmf q1039.2)).bind fun q1052 => ((some (jhm q1039.2 q1052.2)).bind fun h1054 => ((x2).bind fun a1056 => ((jlk h1054 a1056).bind fun u1058 => (if (jw (jd_203 (jmf h1054))) = (jw q1039.1) then (if (jw q1039.1) = 0 then ((x3).bind fun a1063 => ((jal h1054 a1063 0).bind fun v1065 => (if (jwl v1065) = (jw q1052.1) then jd_403_b2491 L xs x1 x2 x3 x4 h1054 else none))) else jd_403_b2491 L xs x1 x2 x3 x4 h1054) else none))))))))))))))
set_option maxRecDepth 100000 in
theorem jk_403_b2414 {L : Nat} {xs : Nat → Int32} {x1 : Option Nat} {x2 : Option Nat} {x3 : Option Nat} {x4 : Int} {h : jH} {o : ((Int × jH) ⊕ jH)} {r : mm_R} (e : jd_403_b2414 L xs x1 x2 x3 x4 h = some o) (K : jsm (fun s => (∀ lv : jL, lv 0 = some (jR (some 1000000)) → lv 1 = some (jR x1) → lv 2 = some (jR x2) → lv 3 = some (jR x3) → lv 4 = some (jI s.1) → ey (mm_xt L xs) 72 403 23 lv [] s.2 r)) (fun x => (∀ lv : jL, ey (mm_xt L xs) 72 403 3175 lv [] x r)) o) : ∀ lv : jL, lv 0 = some (jR (some 1000000)) → lv 1 = some (jR x1) → lv 2 = some (jR x2) → lv 3 = some (jR x3) → lv 4 = some (jI x4) → ey (mm_xt L xs) 72 403 2414 lv [] h r := by
  intro lv f0 f1 f2 f3 f4
  unfold jd_403_b2414 at e
  refine ey_aload_n (cd_403 rfl) f1 ?_
  refine ey_aload_n (cd_403 rfl) f0 ?_
  refine ey_iload (cd_403 rfl) f4 ?_
  refine ey_iconst (cd_403 rfl) ?_
  refine ey_iadd (cd_403 rfl) ?_
  obtain ⟨v1033, e1034, e⟩ := jbind e
  refine ey_iasc (cd_403 rfl) e1034 ?_
  refine ey_aload_n (cd_403 rfl) f0 ?_
  refine ey_iload (cd_403 rfl) f4 ?_
  refine ey_iconst (cd_403 rfl) ?_
  refine ey_iadd (cd_403 rfl) ?_
  obtain ⟨v1035, e1036, e⟩ := jbind e
  refine ey_iasc (cd_403 rfl) e1036 ?_
  refine ey_aload_n (cd_403 rfl) f0 ?_
  refine ey_iload (cd_403 rfl) f4 ?_
  refine ey_iconst (cd_403 rfl) ?_
  refine ey_iadd (cd_403 rfl) ?_
  obtain ⟨v1037, e1038, e⟩ := jbind e
  refine ey_iasc (cd_403 rfl) e1038 ?_
  refine ey_aload_n (cd_403 rfl) f3 ?_
  obtain ⟨q1039, e1040, e⟩ := jbind e
  refine ey_cs (s0 := [jR x3, jI v1037, jI v1035, jI v1033, jR x1]) (s1 := []) (st' := [jI q1039.1]) (cd_403 rfl) mt_403 mt_392 rfl (by decide) rfl rfl (jsml_s rfl) rfl (mm_Runs.up (d := 4) (by decide) (ok_392 e1040)) ?_
  refine ey_istore (cd_403 rfl) mt_403 rfl ?_
  refine ey_aload_n (cd_403 rfl) f2 ?_
  refine ey_aload_n (cd_403 rfl) f0 ?_
  refine ey_iload (cd_403 rfl) (jup_pi (lv := lv) (j := 4) (v := jI q1039.1) (z := x4) f4) ?_
  refine ey_iconst (cd_403 rfl) ?_
  refine ey_iadd (cd_403 rfl) ?_
  obtain ⟨v1041, e1042, e⟩ := jbind e
  refine ey_iasc (cd_403 rfl) e1042 ?_
  refine ey_aload_n (cd_403 rfl) f0 ?_
  refine ey_iload (cd_403 rfl) (jup_pi (lv := lv) (j := 4) (v := jI q1039.1) (z := x4) f4) ?_
  refine ey_iconst (cd_403 rfl) ?_
  refine ey_iadd (cd_403 rfl) ?_
  obtain ⟨v1043, e1044, e⟩ := jbind e
  refine ey_iasc (cd_403 rfl) e1044 ?_
  refine ey_aload_n (cd_403 rfl) f0 ?_
  refine ey_iload (cd_403 rfl) (jup_pi (lv := lv) (j := 4) (v := jI q1039.1) (z := x4) f4) ?_
  refine ey_iconst (cd_403 rfl) ?_
  refine ey_iadd (cd_403 rfl) ?_
  obtain ⟨v1045, e1046, e⟩ := jbind e
  refine ey_iasc (cd_403 rfl) e1046 ?_
  obtain ⟨a1047, e1048, e⟩ := jbind e
  refine ey_rs (s0 := [jI v1045, jI v1043, jI v1041, jR x2]) (s1 := [jI v1045, jI v1043, jI v1041, jR (some a1047)]) (by rw [e1048]) ?_
  obtain ⟨u1049, e1050, e⟩ := jbind e
  have w1051 := jlk_s e1050
  refine ey_rs (s0 := [jI v1045, jI v1043, jI v1041, jR (some a1047)]) (s1 := [jI v1045, jI v1043, jI v1041, jR (some 76)]) (by rw [w1051.1]) ?_
  obtain ⟨q1052, e1053, e⟩ := jbind e
  refine ey_cv (s0 := [jI v1045, jI v1043, jI v1041, jR (some 76)]) (s1 := []) (st' := [jI q1052.1]) (cd_403 rfl) mt_403 mt_348 rfl rfl rfl (by have w := jhm_is (m := jmf q1039.2) w1051.2.1; rw [w1051.2.2.2] at w; exact w) rfl (jsml_s rfl) rfl (mm_Runs.up (d := 3) (by decide) (by have w := ok_348 (L := L) (xs := xs) (b := q1039.2) (m := jmf q1039.2) w1051.2.1 w1051.2.2.1 e1053; rw [w1051.2.2.2] at w; exact w)) ?_
  obtain ⟨h1054, e1055, e⟩ := jbind e
  obtain rfl : (jhm q1039.2 q1052.2) = h1054 := Option.some.inj e1055
  refine ey_istore (cd_403 rfl) mt_403 rfl ?_
  refine ey_aload_n (cd_403 rfl) f2 ?_
  obtain ⟨a1056, e1057, e⟩ := jbind e
  refine ey_rs (s0 := [jR x2]) (s1 := [jR (some a1056)]) (by rw [e1057]) ?_
  obtain ⟨u1058, e1059, e⟩ := jbind e
  have w1060 := jlk_s e1059
  refine ey_rs (s0 := [jR (some a1056)]) (s1 := [jR (some 76)]) (by rw [w1060.1]) ?_
  refine ey_cv (s0 := [jR (some 76)]) (s1 := []) (st' := [jI (jd_203 (jmf h1054))]) (cd_403 rfl) mt_403 mt_203 rfl rfl rfl (by have w := jhm_is (m := jmf h1054) w1060.2.1; rw [w1060.2.2.2] at w; exact w) rfl (jsml_s rfl) rfl (mm_Runs.up (d := 1) (by decide) (by have w := ok_203 (L := L) (xs := xs) (b := h1054) (m := jmf h1054) w1060.2.1 w1060.2.2.1 ; rw [w1060.2.2.2] at w; exact w)) ?_
  refine ey_iload (cd_403 rfl) (jup_pi (lv := (jup lv 5 (jI q1039.1))) (j := 5) (v := jI q1052.1) (z := q1039.1) rfl) ?_
  by_cases q1061 : (jw (jd_203 (jmf h1054))) = (jw q1039.1)
  · rw [if_pos q1061] at e
    refine ey_ceq (cd_403 rfl) rfl rfl rfl q1061 ?_
    refine ey_iload (cd_403 rfl) (jup_pi (lv := (jup lv 5 (jI q1039.1))) (j := 5) (v := jI q1052.1) (z := q1039.1) rfl) ?_
    by_cases q1062 : (jw q1039.1) = 0
    · rw [if_pos q1062] at e
      refine ey_yne (cd_403 rfl) rfl rfl (fun w => w q1062) ?_
      refine ey_aload_n (cd_403 rfl) f3 ?_
      refine ey_iconst (cd_403 rfl) ?_
      obtain ⟨a1063, e1064, e⟩ := jbind e
      refine ey_rs (s0 := [jI 0, jR x3]) (s1 := [jI 0, jR (some a1063)]) (by rw [e1064]) ?_
      obtain ⟨v1065, e1066, e⟩ := jbind e
      refine ey_lald (cd_403 rfl) e1066 ?_
      refine ey_iload (cd_403 rfl) rfl ?_
      refine ey_i2l (cd_403 rfl) ?_
      refine ey_lcmp (cd_403 rfl) ?_
      by_cases q1067 : (jwl v1065) = (jw q1052.1)
      · rw [if_pos q1067] at e
        refine ey_zeq (cd_403 rfl) rfl rfl ((jlc_eq rfl (jwl_jw _)).mpr q1067) ?_
        exact jk_403_b2491 e K (jup (jup lv 5 (jI q1039.1)) 6 (jI q1052.1)) f0 f1 f2 f3 (jup_o rfl (jup_pi (lv := lv) (j := 4) (v := jI q1039.1) (z := x4) f4))
      · rw [if_neg q1067] at e
        refine ey_yeq (cd_403 rfl) rfl rfl (fun w => q1067 ((jlc_eq rfl (jwl_jw _)).mp w)) ?_
        cases e
    · rw [if_neg q1062] at e
      refine ey_zne (cd_403 rfl) rfl rfl q1062 ?_
      exact jk_403_b2491 e K (jup (jup lv 5 (jI q1039.1)) 6 (jI q1052.1)) f0 f1 f2 f3 (jup_o rfl (jup_pi (lv := lv) (j := 4) (v := jI q1039.1) (z := x4) f4))
  · rw [if_neg q1061] at e
    refine ey_neq (cd_403 rfl) rfl rfl rfl q1061 ?_
    cases e
def jd_403_b2566 (L : Nat) (xs : Nat → Int32) (x1 : Option Nat) (x2 : Option Nat) (x3 : Option Nat) (x4 : Int) (h : jH) : Option ((Int × jH) ⊕ jH) :=
  jd_403_b3169 L xs x1 x2 x3 x4 h
set_option maxRecDepth 100000 in
theorem jk_403_b2566 {L : Nat} {xs : Nat → Int32} {x1 : Option Nat} {x2 : Option Nat} {x3 : Option Nat} {x4 : Int} {h : jH} {o : ((Int × jH) ⊕ jH)} {r : mm_R} (e : jd_403_b2566 L xs x1 x2 x3 x4 h = some o) (K : jsm (fun s => (∀ lv : jL, lv 0 = some (jR (some 1000000)) → lv 1 = some (jR x1) → lv 2 = some (jR x2) → lv 3 = some (jR x3) → lv 4 = some (jI s.1) → ey (mm_xt L xs) 72 403 23 lv [] s.2 r)) (fun x => (∀ lv : jL, ey (mm_xt L xs) 72 403 3175 lv [] x r)) o) : ∀ lv : jL, lv 0 = some (jR (some 1000000)) → lv 1 = some (jR x1) → lv 2 = some (jR x2) → lv 3 = some (jR x3) → lv 4 = some (jI x4) → ey (mm_xt L xs) 72 403 2566 lv [] h r := by
  intro lv f0 f1 f2 f3 f4
  unfold jd_403_b2566 at e
  refine ey_goto (cd_403 rfl) rfl ?_
  exact jk_403_b3169 e K lv f0 f1 f2 f3 f4
def jd_403_b2494 (L : Nat) (xs : Nat → Int32) (x1 : Option Nat) (x2 : Option Nat) (x3 : Option Nat) (x4 : Int) (h : jH) : Option ((Int × jH) ⊕ jH) :=
  ((jsc L xs (x4 + 1)).bind fun v1069 => ((jsc L xs (x4 + 2)).bind fun v1071 => ((jd_393 x1 v1069 v1071 x3 h).bind fun q1073 => ((jsc L xs (x4 + 1)).bind fun v1075 => ((jsc L xs (x4 + 2)).bind fun v1077 => ((x2).bind fun a1079 => ((jlk q1073.2 a1079).bind fun u1081 => ((jd_350 v1075 v1077 (jmf q1073.2)).bind fun q1084 => ((some (jhm q1073.2 q1084.2)).bind fun h1086 => ((x2).bind fun a1088 => ((jlk h1086 a1088).bind fun u1090 => (if (jw (jd_203 (jmf h1086))) = (jw q1073.1) then (if (jw q1073.1) = 0 then ((x3).bind fun a1095 => ((jal h1086 a1095 0).bind fun v1097 => (if (jwl v1097) = (jwl (if (jw q1084.1) = 0 then 0 else 1)) then jd_403_b2566 L xs x1 x2 x3 x4 h1086 else none))) else jd_403_b2566 L xs x1 x2 x3 x4 h1086) else none))))))))))))
set_option maxRecDepth 100000 in
theorem jk_403_b2494 {L : Nat} {xs : Nat → Int32} {x1 : Option Nat} {x2 : Option Nat} {x3 : Option Nat} {x4 : Int} {h : jH} {o : ((Int × jH) ⊕ jH)} {r : mm_R} (e : jd_403_b2494 L xs x1 x2 x3 x4 h = some o) (K : jsm (fun s => (∀ lv : jL, lv 0 = some (jR (some 1000000)) → lv 1 = some (jR x1) → lv 2 = some (jR x2) → lv 3 = some (jR x3) → lv 4 = some (jI s.1) → ey (mm_xt L xs) 72 403 23 lv [] s.2 r)) (fun x => (∀ lv : jL, ey (mm_xt L xs) 72 403 3175 lv [] x r)) o) : ∀ lv : jL, lv 0 = some (jR (some 1000000)) → lv 1 = some (jR x1) → lv 2 = some (jR x2) → lv 3 = some (jR x3) → lv 4 = some (jI x4) → ey (mm_xt L xs) 72 403 2494 lv [] h r := by
  intro lv f0 f1 f2 f3 f4
  unfold jd_403_b2494 at e
  refine ey_aload_n (cd_403 rfl) f1 ?_
  refine ey_aload_n (cd_403 rfl) f0 ?_
  refine ey_iload (cd_403 rfl) f4 ?_
  refine ey_iconst (cd_403 rfl) ?_
  refine ey_iadd (cd_403 rfl) ?_
  obtain ⟨v1069, e1070, e⟩ := jbind e
  refine ey_iasc (cd_403 rfl) e1070 ?_
  refine ey_aload_n (cd_403 rfl) f0 ?_
  refine ey_iload (cd_403 rfl) f4 ?_
  refine ey_iconst (cd_403 rfl) ?_
  refine ey_iadd (cd_403 rfl) ?_
  obtain ⟨v1071, e1072, e⟩ := jbind e
  refine ey_iasc (cd_403 rfl) e1072 ?_
  refine ey_aload_n (cd_403 rfl) f3 ?_
  obtain ⟨q1073, e1074, e⟩ := jbind e
  refine ey_cs (s0 := [jR x3, jI v1071, jI v1069, jR x1]) (s1 := []) (st' := [jI q1073.1]) (cd_403 rfl) mt_403 mt_393 rfl (by decide) rfl rfl (jsml_s rfl) rfl (mm_Runs.up (d := 4) (by decide) (ok_393 e1074)) ?_
  refine ey_istore (cd_403 rfl) mt_403 rfl ?_
  refine ey_aload_n (cd_403 rfl) f2 ?_
  refine ey_aload_n (cd_403 rfl) f0 ?_
  refine ey_iload (cd_403 rfl) (jup_pi (lv := lv) (j := 4) (v := jI q1073.1) (z := x4) f4) ?_
  refine ey_iconst (cd_403 rfl) ?_
  refine ey_iadd (cd_403 rfl) ?_
  obtain ⟨v1075, e1076, e⟩ := jbind e
  refine ey_iasc (cd_403 rfl) e1076 ?_
  refine ey_aload_n (cd_403 rfl) f0 ?_
  refine ey_iload (cd_403 rfl) (jup_pi (lv := lv) (j := 4) (v := jI q1073.1) (z := x4) f4) ?_
  refine ey_iconst (cd_403 rfl) ?_
  refine ey_iadd (cd_403 rfl) ?_
  obtain ⟨v1077, e1078, e⟩ := jbind e
  refine ey_iasc (cd_403 rfl) e1078 ?_
  obtain ⟨a1079, e1080, e⟩ := jbind e
  refine ey_rs (s0 := [jI v1077, jI v1075, jR x2]) (s1 := [jI v1077, jI v1075, jR (some a1079)]) (by rw [e1080]) ?_
  obtain ⟨u1081, e1082, e⟩ := jbind e
  have w1083 := jlk_s e1082
  refine ey_rs (s0 := [jI v1077, jI v1075, jR (some a1079)]) (s1 := [jI v1077, jI v1075, jR (some 76)]) (by rw [w1083.1]) ?_
  obtain ⟨q1084, e1085, e⟩ := jbind e
  refine ey_cv (s0 := [jI v1077, jI v1075, jR (some 76)]) (s1 := []) (st' := [jI q1084.1]) (cd_403 rfl) mt_403 mt_350 rfl rfl rfl (by have w := jhm_is (m := jmf q1073.2) w1083.2.1; rw [w1083.2.2.2] at w; exact w) rfl (jsml_s rfl) rfl (mm_Runs.up (d := 4) (by decide) (by have w := ok_350 (L := L) (xs := xs) (b := q1073.2) (m := jmf q1073.2) w1083.2.1 w1083.2.2.1 e1085; rw [w1083.2.2.2] at w; exact w)) ?_
  obtain ⟨h1086, e1087, e⟩ := jbind e
  obtain rfl : (jhm q1073.2 q1084.2) = h1086 := Option.some.inj e1087
  refine ey_istore (cd_403 rfl) mt_403 rfl ?_
  refine ey_aload_n (cd_403 rfl) f2 ?_
  obtain ⟨a1088, e1089, e⟩ := jbind e
  refine ey_rs (s0 := [jR x2]) (s1 := [jR (some a1088)]) (by rw [e1089]) ?_
  obtain ⟨u1090, e1091, e⟩ := jbind e
  have w1092 := jlk_s e1091
  refine ey_rs (s0 := [jR (some a1088)]) (s1 := [jR (some 76)]) (by rw [w1092.1]) ?_
  refine ey_cv (s0 := [jR (some 76)]) (s1 := []) (st' := [jI (jd_203 (jmf h1086))]) (cd_403 rfl) mt_403 mt_203 rfl rfl rfl (by have w := jhm_is (m := jmf h1086) w1092.2.1; rw [w1092.2.2.2] at w; exact w) rfl (jsml_s rfl) rfl (mm_Runs.up (d := 1) (by decide) (by have w := ok_203 (L := L) (xs := xs) (b := h1086) (m := jmf h1086) w1092.2.1 w1092.2.2.1 ; rw [w1092.2.2.2] at w; exact w)) ?_
  refine ey_iload (cd_403 rfl) (jup_pi (lv := (jup lv 5 (jI q1073.1))) (j := 5) (v := jI q1084.1) (z := q1073.1) rfl) ?_
  by_cases q1093 : (jw (jd_203 (jmf h1086))) = (jw q1073.1)
  · rw [if_pos q1093] at e
    refine ey_ceq (cd_403 rfl) rfl rfl rfl q1093 ?_
    refine ey_iload (cd_403 rfl) (jup_pi (lv := (jup lv 5 (jI q1073.1))) (j := 5) (v := jI q1084.1) (z := q1073.1) rfl) ?_
    by_cases q1094 : (jw q1073.1) = 0
    · rw [if_pos q1094] at e
      refine ey_yne (cd_403 rfl) rfl rfl (fun w => w q1094) ?_
      refine ey_aload_n (cd_403 rfl) f3 ?_
      refine ey_iconst (cd_403 rfl) ?_
      obtain ⟨a1095, e1096, e⟩ := jbind e
      refine ey_rs (s0 := [jI 0, jR x3]) (s1 := [jI 0, jR (some a1095)]) (by rw [e1096]) ?_
      obtain ⟨v1097, e1098, e⟩ := jbind e
      refine ey_lald (cd_403 rfl) e1098 ?_
      refine ey_iload (cd_403 rfl) rfl ?_
      have K1100 : ∀ lv : jL, lv 0 = some (jR (some 1000000)) → lv 1 = some (jR x1) → lv 2 = some (jR x2) → lv 3 = some (jR x3) → lv 4 = some (jI x4) → ey (mm_xt L xs) 72 403 2560 lv [jJ (if (jw q1084.1) = 0 then 0 else 1), jJ v1097] h1086 r := by
        intro lv g0 g1 g2 g3 g4
        refine ey_lcmp (cd_403 rfl) ?_
        by_cases q1099 : (jwl v1097) = (jwl (if (jw q1084.1) = 0 then 0 else 1))
        · rw [if_pos q1099] at e
          refine ey_zeq (cd_403 rfl) rfl rfl ((jlc_eq rfl rfl).mpr q1099) ?_
          exact jk_403_b2566 e K lv g0 g1 g2 g3 g4
        · rw [if_neg q1099] at e
          refine ey_yeq (cd_403 rfl) rfl rfl (fun w => q1099 ((jlc_eq rfl rfl).mp w)) ?_
          cases e
      by_cases q1101 : (jw q1084.1) = 0
      · refine ey_zeq (cd_403 rfl) rfl rfl q1101 ?_
        refine ey_lconst0 (cd_403 rfl) ?_
        exact ey_rs (s0 := [jJ 0, jJ v1097]) (s1 := [jJ (if (jw q1084.1) = 0 then 0 else 1), jJ v1097]) (by rw [show ((if (jw q1084.1) = 0 then 0 else 1) : Int) = 0 from (if_pos q1101)]) (K1100 (jup (jup lv 5 (jI q1073.1)) 6 (jI q1084.1)) f0 f1 f2 f3 (jup_o rfl (jup_pi (lv := lv) (j := 4) (v := jI q1073.1) (z := x4) f4)))
      · refine ey_yeq (cd_403 rfl) rfl rfl q1101 ?_
        refine ey_lconst1 (cd_403 rfl) ?_
        refine ey_goto (cd_403 rfl) rfl ?_
        exact ey_rs (s0 := [jJ 1, jJ v1097]) (s1 := [jJ (if (jw q1084.1) = 0 then 0 else 1), jJ v1097]) (by rw [show ((if (jw q1084.1) = 0 then 0 else 1) : Int) = 1 from (if_neg q1101)]) (K1100 (jup (jup lv 5 (jI q1073.1)) 6 (jI q1084.1)) f0 f1 f2 f3 (jup_o rfl (jup_pi (lv := lv) (j := 4) (v := jI q1073.1) (z := x4) f4)))
    · rw [if_neg q1094] at e
      refine ey_zne (cd_403 rfl) rfl rfl q1094 ?_
      exact jk_403_b2566 e K (jup (jup lv 5 (jI q1073.1)) 6 (jI q1084.1)) f0 f1 f2 f3 (jup_o rfl (jup_pi (lv := lv) (j := 4) (v := jI q1073.1) (z := x4) f4))
  · rw [if_neg q1093] at e
    refine ey_neq (cd_403 rfl) rfl rfl rfl q1093 ?_
    cases e
def jd_403_b2634 (L : Nat) (xs : Nat → Int32) (x1 : Option Nat) (x2 : Option Nat) (x3 : Option Nat) (x4 : Int) (h : jH) : Option ((Int × jH) ⊕ jH) :=
  jd_403_b3169 L xs x1 x2 x3 x4 h
set_option maxRecDepth 100000 in
theorem jk_403_b2634 {L : Nat} {xs : Nat → Int32} {x1 : Option Nat} {x2 : Option Nat} {x3 : Option Nat} {x4 : Int} {h : jH} {o : ((Int × jH) ⊕ jH)} {r : mm_R} (e : jd_403_b2634 L xs x1 x2 x3 x4 h = some o) (K : jsm (fun s => (∀ lv : jL, lv 0 = some (jR (some 1000000)) → lv 1 = some (jR x1) → lv 2 = some (jR x2) → lv 3 = some (jR x3) → lv 4 = some (jI s.1) → ey (mm_xt L xs) 72 403 23 lv [] s.2 r)) (fun x => (∀ lv : jL, ey (mm_xt L xs) 72 403 3175 lv [] x r)) o) : ∀ lv : jL, lv 0 = some (jR (some 1000000)) → lv 1 = some (jR x1) → lv 2 = some (jR x2) → lv 3 = some (jR x3) → lv 4 = some (jI x4) → ey (mm_xt L xs) 72 403 2634 lv [] h r := by
  intro lv f0 f1 f2 f3 f4
  unfold jd_403_b2634 at e
  refine ey_goto (cd_403 rfl) rfl ?_
  exact jk_403_b3169 e K lv f0 f1 f2 f3 f4
def jd_403_b2569 (L : Nat) (xs : Nat → Int32) (x1 : Option Nat) (x2 : Option Nat) (x3 : Option Nat) (x4 : Int) (h : jH) : Option ((Int × jH) ⊕ jH) :=
  ((jsc L xs (x4 + 1)).bind fun v1103 => ((jsc L xs (x4 + 2)).bind fun v1105 => ((jd_394 x1 v1103 v1105 x3 h).bind fun q1107 => ((jsc L xs (x4 + 1)).bind fun v1109 => ((jsc L xs (x4 + 2)).bind fun v1111 => ((x2).bind fun a1113 => ((jlk q1107.2 a1113).bind fun u1115 => ((jd_352 v1109 v1111 (jmf q1107.2)).bind fun q1118 => ((some (jhm q1107.2 q1118.2)).bind fun h1120 => ((x2).bind fun a1122 => ((jlk h1120 a1122).bind fun u1124 => (if (jw (jd_203 (jmf h1120))) = (jw q1107.1) then (if (jw q1107.1) = 0 then ((x3).bind fun a1129 => ((jal h1120 a1129 0).bind fun v1131 => (if (jwl v1131) = (jw q1118.1) then jd_403_b2634 L xs x1 x2 x3 x4 h1120 else none))) else jd_403_b2634 L xs x1 x2 x3 x4 h1120) else none))))))))))))
set_option maxRecDepth 100000 in
theorem jk_403_b2569 {L : Nat} {xs : Nat → Int32} {x1 : Option Nat} {x2 : Option Nat} {x3 : Option Nat} {x4 : Int} {h : jH} {o : ((Int × jH) ⊕ jH)} {r : mm_R} (e : jd_403_b2569 L xs x1 x2 x3 x4 h = some o) (K : jsm (fun s => (∀ lv : jL, lv 0 = some (jR (some 1000000)) → lv 1 = some (jR x1) → lv 2 = some (jR x2) → lv 3 = some (jR x3) → lv 4 = some (jI s.1) → ey (mm_xt L xs) 72 403 23 lv [] s.2 r)) (fun x => (∀ lv : jL, ey (mm_xt L xs) 72 403 3175 lv [] x r)) o) : ∀ lv : jL, lv 0 = some (jR (some 1000000)) → lv 1 = some (jR x1) → lv 2 = some (jR x2) → lv 3 = some (jR x3) → lv 4 = some (jI x4) → ey (mm_xt L xs) 72 403 2569 lv [] h r := by
  intro lv f0 f1 f2 f3 f4
  unfold jd_403_b2569 at e
  refine ey_aload_n (cd_403 rfl) f1 ?_
  refine ey_aload_n (cd_403 rfl) f0 ?_
  refine ey_iload (cd_403 rfl) f4 ?_
  refine ey_iconst (cd_403 rfl) ?_
  refine ey_iadd (cd_403 rfl) ?_
  obtain ⟨v1103, e1104, e⟩ := jbind e
  refine ey_iasc (cd_403 rfl) e1104 ?_
  refine ey_aload_n (cd_403 rfl) f0 ?_
  refine ey_iload (cd_403 rfl) f4 ?_
  refine ey_iconst (cd_403 rfl) ?_
  refine ey_iadd (cd_403 rfl) ?_
  obtain ⟨v1105, e1106, e⟩ := jbind e
  refine ey_iasc (cd_403 rfl) e1106 ?_
  refine ey_aload_n (cd_403 rfl) f3 ?_
  obtain ⟨q1107, e1108, e⟩ := jbind e
  refine ey_cs (s0 := [jR x3, jI v1105, jI v1103, jR x1]) (s1 := []) (st' := [jI q1107.1]) (cd_403 rfl) mt_403 mt_394 rfl (by decide) rfl rfl (jsml_s rfl) rfl (mm_Runs.up (d := 4) (by decide) (ok_394 e1108)) ?_
  refine ey_istore (cd_403 rfl) mt_403 rfl ?_
  refine ey_aload_n (cd_403 rfl) f2 ?_
  refine ey_aload_n (cd_403 rfl) f0 ?_
  refine ey_iload (cd_403 rfl) (jup_pi (lv := lv) (j := 4) (v := jI q1107.1) (z := x4) f4) ?_
  refine ey_iconst (cd_403 rfl) ?_
  refine ey_iadd (cd_403 rfl) ?_
  obtain ⟨v1109, e1110, e⟩ := jbind e
  refine ey_iasc (cd_403 rfl) e1110 ?_
  refine ey_aload_n (cd_403 rfl) f0 ?_
  refine ey_iload (cd_403 rfl) (jup_pi (lv := lv) (j := 4) (v := jI q1107.1) (z := x4) f4) ?_
  refine ey_iconst (cd_403 rfl) ?_
  refine ey_iadd (cd_403 rfl) ?_
  obtain ⟨v1111, e1112, e⟩ := jbind e
  refine ey_iasc (cd_403 rfl) e1112 ?_
  obtain ⟨a1113, e1114, e⟩ := jbind e
  refine ey_rs (s0 := [jI v1111, jI v1109, jR x2]) (s1 := [jI v1111, jI v1109, jR (some a1113)]) (by rw [e1114]) ?_
  obtain ⟨u1115, e1116, e⟩ := jbind e
  have w1117 := jlk_s e1116
  refine ey_rs (s0 := [jI v1111, jI v1109, jR (some a1113)]) (s1 := [jI v1111, jI v1109, jR (some 76)]) (by rw [w1117.1]) ?_
  obtain ⟨q1118, e1119, e⟩ := jbind e
  refine ey_cv (s0 := [jI v1111, jI v1109, jR (some 76)]) (s1 := []) (st' := [jI q1118.1]) (cd_403 rfl) mt_403 mt_352 rfl rfl rfl (by have w := jhm_is (m := jmf q1107.2) w1117.2.1; rw [w1117.2.2.2] at w; exact w) rfl (jsml_s rfl) rfl (mm_Runs.up (d := 4) (by decide) (by have w := ok_352 (L := L) (xs := xs) (b := q1107.2) (m := jmf q1107.2) w1117.2.1 w1117.2.2.1 e1119; rw [w1117.2.2.2] at w; exact w)) ?_
  obtain ⟨h1120, e1121, e⟩ := jbind e
  obtain rfl : (jhm q1107.2 q1118.2) = h1120 := Option.some.inj e1121
  refine ey_istore (cd_403 rfl) mt_403 rfl ?_
  refine ey_aload_n (cd_403 rfl) f2 ?_
  obtain ⟨a1122, e1123, e⟩ := jbind e
  refine ey_rs (s0 := [jR x2]) (s1 := [jR (some a1122)]) (by rw [e1123]) ?_
  obtain ⟨u1124, e1125, e⟩ := jbind e
  have w1126 := jlk_s e1125
  refine ey_rs (s0 := [jR (some a1122)]) (s1 := [jR (some 76)]) (by rw [w1126.1]) ?_
  refine ey_cv (s0 := [jR (some 76)]) (s1 := []) (st' := [jI (jd_203 (jmf h1120))]) (cd_403 rfl) mt_403 mt_203 rfl rfl rfl (by have w := jhm_is (m := jmf h1120) w1126.2.1; rw [w1126.2.2.2] at w; exact w) rfl (jsml_s rfl) rfl (mm_Runs.up (d := 1) (by decide) (by have w := ok_203 (L := L) (xs := xs) (b := h1120) (m := jmf h1120) w1126.2.1 w1126.2.2.1 ; rw [w1126.2.2.2] at w; exact w)) ?_
  refine ey_iload (cd_403 rfl) (jup_pi (lv := (jup lv 5 (jI q1107.1))) (j := 5) (v := jI q1118.1) (z := q1107.1) rfl) ?_
  by_cases q1127 : (jw (jd_203 (jmf h1120))) = (jw q1107.1)
  · rw [if_pos q1127] at e
    refine ey_ceq (cd_403 rfl) rfl rfl rfl q1127 ?_
    refine ey_iload (cd_403 rfl) (jup_pi (lv := (jup lv 5 (jI q1107.1))) (j := 5) (v := jI q1118.1) (z := q1107.1) rfl) ?_
    by_cases q1128 : (jw q1107.1) = 0
    · rw [if_pos q1128] at e
      refine ey_yne (cd_403 rfl) rfl rfl (fun w => w q1128) ?_
      refine ey_aload_n (cd_403 rfl) f3 ?_
      refine ey_iconst (cd_403 rfl) ?_
      obtain ⟨a1129, e1130, e⟩ := jbind e
      refine ey_rs (s0 := [jI 0, jR x3]) (s1 := [jI 0, jR (some a1129)]) (by rw [e1130]) ?_
      obtain ⟨v1131, e1132, e⟩ := jbind e
      refine ey_lald (cd_403 rfl) e1132 ?_
      refine ey_iload (cd_403 rfl) rfl ?_
      refine ey_i2l (cd_403 rfl) ?_
      refine ey_lcmp (cd_403 rfl) ?_
      by_cases q1133 : (jwl v1131) = (jw q1118.1)
      · rw [if_pos q1133] at e
        refine ey_zeq (cd_403 rfl) rfl rfl ((jlc_eq rfl (jwl_jw _)).mpr q1133) ?_
        exact jk_403_b2634 e K (jup (jup lv 5 (jI q1107.1)) 6 (jI q1118.1)) f0 f1 f2 f3 (jup_o rfl (jup_pi (lv := lv) (j := 4) (v := jI q1107.1) (z := x4) f4))
      · rw [if_neg q1133] at e
        refine ey_yeq (cd_403 rfl) rfl rfl (fun w => q1133 ((jlc_eq rfl (jwl_jw _)).mp w)) ?_
        cases e
    · rw [if_neg q1128] at e
      refine ey_zne (cd_403 rfl) rfl rfl q1128 ?_
      exact jk_403_b2634 e K (jup (jup lv 5 (jI q1107.1)) 6 (jI q1118.1)) f0 f1 f2 f3 (jup_o rfl (jup_pi (lv := lv) (j := 4) (v := jI q1107.1) (z := x4) f4))
  · rw [if_neg q1127] at e
    refine ey_neq (cd_403 rfl) rfl rfl rfl q1127 ?_
    cases e
def jd_403_b2726 (L : Nat) (xs : Nat → Int32) (x1 : Option Nat) (x2 : Option Nat) (x3 : Option Nat) (x4 : Int) (h : jH) : Option ((Int × jH) ⊕ jH) :=
  jd_403_b3169 L xs x1 x2 x3 x4 h
set_option maxRecDepth 100000 in
theorem jk_403_b2726 {L : Nat} {xs : Nat → Int32} {x1 : Option Nat} {x2 : Option Nat} {x3 : Option Nat} {x4 : Int} {h : jH} {o : ((Int × jH) ⊕ jH)} {r : mm_R} (e : jd_403_b2726 L xs x1 x2 x3 x4 h = some o) (K : jsm (fun s => (∀ lv : jL, lv 0 = some (jR (some 1000000)) → lv 1 = some (jR x1) → lv 2 = some (jR x2) → lv 3 = some (jR x3) → lv 4 = some (jI s.1) → ey (mm_xt L xs) 72 403 23 lv [] s.2 r)) (fun x => (∀ lv : jL, ey (mm_xt L xs) 72 403 3175 lv [] x r)) o) : ∀ lv : jL, lv 0 = some (jR (some 1000000)) → lv 1 = some (jR x1) → lv 2 = some (jR x2) → lv 3 = some (jR x3) → lv 4 = some (jI x4) → ey (mm_xt L xs) 72 403 2726 lv [] h r := by
  intro lv f0 f1 f2 f3 f4
  unfold jd_403_b2726 at e
  refine ey_goto (cd_403 rfl) rfl ?_
  exact jk_403_b3169 e K lv f0 f1 f2 f3 f4
def jd_403_b2637 (L : Nat) (xs : Nat → Int32) (x1 : Option Nat) (x2 : Option Nat) (x3 : Option Nat) (x4 : Int) (h : jH) : Option ((Int × jH) ⊕ jH) :=
  ((jsc L xs (x4 + 1)).bind fun v1135 => ((jsc L xs (x4 + 2)).bind fun v1137 => ((jsc L xs (x4 + 3)).bind fun v1139 => ((jsc L xs (x4 + 4)).bind fun v1141 => ((jd_395 x1 v1135 v1137 v1139 v1141 x3 h).bind fun q1143 => ((jsc L xs (x4 + 1)).bind fun v1145 => ((jsc L xs (x4 + 2)).bind fun v1147 => ((jsc L xs (x4 + 3)).bind fun v1149 => ((jsc L xs (x4 + 4)).bind fun v1151 => ((x2).bind fun a1153 => ((jlk q1143.2 a1153).bind fun u1155 => ((jd_354 v1145 v1147 v1149 v1151 (jmf q1143.2)).bind fun q1158 => ((some (jhm q1143.2 q1158.2)).bind fun h1160 => ((x2).bind fun a1162 => ((jlk h1160 a1162).bind fun u1164 => (if (jw (jd_203 (jmf h1160))) = (jw q1143.1) then (if (jw q1143.1) = 0 then ((x3).bind fun a1169 => ((jal h1160 a1169 0).bind fun v1171 => (if (jwl v1171) = (jw q1158.1) then jd_403_b2726 L xs x1 x2 x3 x4 h1160 else none))) else jd_403_b2726 L xs x1 x2 x3 x4 h1160) else none))))))))))))))))
set_option maxRecDepth 100000 in
theorem jk_403_b2637 {L : Nat} {xs : Nat → Int32} {x1 : Option Nat} {x2 : Option Nat} {x3 : Option Nat} {x4 : Int} {h : jH} {o : ((Int × jH) ⊕ jH)} {r : mm_R} (e : jd_403_b2637 L xs x1 x2 x3 x4 h = some o) (K : jsm (fun s => (∀ lv : jL, lv 0 = some (jR (some 1000000)) → lv 1 = some (jR x1) → lv 2 = some (jR x2) → lv 3 = some (jR x3) → lv 4 = some (jI s.1) → ey (mm_xt L xs) 72 403 23 lv [] s.2 r)) (fun x => (∀ lv : jL, ey (mm_xt L xs) 72 403 3175 lv [] x r)) o) : ∀ lv : jL, lv 0 = some (jR (some 1000000)) → lv 1 = some (jR x1) → lv 2 = some (jR x2) → lv 3 = some (jR x3) → lv 4 = some (jI x4) → ey (mm_xt L xs) 72 403 2637 lv [] h r := by
  intro lv f0 f1 f2 f3 f4
  unfold jd_403_b2637 at e
  refine ey_aload_n (cd_403 rfl) f1 ?_
  refine ey_aload_n (cd_403 rfl) f0 ?_
  refine ey_iload (cd_403 rfl) f4 ?_
  refine ey_iconst (cd_403 rfl) ?_
  refine ey_iadd (cd_403 rfl) ?_
  obtain ⟨v1135, e1136, e⟩ := jbind e
  refine ey_iasc (cd_403 rfl) e1136 ?_
  refine ey_aload_n (cd_403 rfl) f0 ?_
  refine ey_iload (cd_403 rfl) f4 ?_
  refine ey_iconst (cd_403 rfl) ?_
  refine ey_iadd (cd_403 rfl) ?_
  obtain ⟨v1137, e1138, e⟩ := jbind e
  refine ey_iasc (cd_403 rfl) e1138 ?_
  refine ey_aload_n (cd_403 rfl) f0 ?_
  refine ey_iload (cd_403 rfl) f4 ?_
  refine ey_iconst (cd_403 rfl) ?_
  refine ey_iadd (cd_403 rfl) ?_
  obtain ⟨v1139, e1140, e⟩ := jbind e
  refine ey_iasc (cd_403 rfl) e1140 ?_
  refine ey_aload_n (cd_403 rfl) f0 ?_
  refine ey_iload (cd_403 rfl) f4 ?_
  refine ey_iconst (cd_403 rfl) ?_
  refine ey_iadd (cd_403 rfl) ?_
  obtain ⟨v1141, e1142, e⟩ := jbind e
  refine ey_iasc (cd_403 rfl) e1142 ?_
  refine ey_aload_n (cd_403 rfl) f3 ?_
  obtain ⟨q1143, e1144, e⟩ := jbind e
  refine ey_cs (s0 := [jR x3, jI v1141, jI v1139, jI v1137, jI v1135, jR x1]) (s1 := []) (st' := [jI q1143.1]) (cd_403 rfl) mt_403 mt_395 rfl (by decide) rfl rfl (jsml_s rfl) rfl (mm_Runs.up (d := 6) (by decide) (ok_395 e1144)) ?_
  refine ey_istore (cd_403 rfl) mt_403 rfl ?_
  refine ey_aload_n (cd_403 rfl) f2 ?_
  refine ey_aload_n (cd_403 rfl) f0 ?_
  refine ey_iload (cd_403 rfl) (jup_pi (lv := lv) (j := 4) (v := jI q1143.1) (z := x4) f4) ?_
  refine ey_iconst (cd_403 rfl) ?_
  refine ey_iadd (cd_403 rfl) ?_
  obtain ⟨v1145, e1146, e⟩ := jbind e
  refine ey_iasc (cd_403 rfl) e1146 ?_
  refine ey_aload_n (cd_403 rfl) f0 ?_
  refine ey_iload (cd_403 rfl) (jup_pi (lv := lv) (j := 4) (v := jI q1143.1) (z := x4) f4) ?_
  refine ey_iconst (cd_403 rfl) ?_
  refine ey_iadd (cd_403 rfl) ?_
  obtain ⟨v1147, e1148, e⟩ := jbind e
  refine ey_iasc (cd_403 rfl) e1148 ?_
  refine ey_aload_n (cd_403 rfl) f0 ?_
  refine ey_iload (cd_403 rfl) (jup_pi (lv := lv) (j := 4) (v := jI q1143.1) (z := x4) f4) ?_
  refine ey_iconst (cd_403 rfl) ?_
  refine ey_iadd (cd_403 rfl) ?_
  obtain ⟨v1149, e1150, e⟩ := jbind e
  refine ey_iasc (cd_403 rfl) e1150 ?_
  refine ey_aload_n (cd_403 rfl) f0 ?_
  refine ey_iload (cd_403 rfl) (jup_pi (lv := lv) (j := 4) (v := jI q1143.1) (z := x4) f4) ?_
  refine ey_iconst (cd_403 rfl) ?_
  refine ey_iadd (cd_403 rfl) ?_
  obtain ⟨v1151, e1152, e⟩ := jbind e
  refine ey_iasc (cd_403 rfl) e1152 ?_
  obtain ⟨a1153, e1154, e⟩ := jbind e
  refine ey_rs (s0 := [jI v1151, jI v1149, jI v1147, jI v1145, jR x2]) (s1 := [jI v1151, jI v1149, jI v1147, jI v1145, jR (some a1153)]) (by rw [e1154]) ?_
  obtain ⟨u1155, e1156, e⟩ := jbind e
  have w1157 := jlk_s e1156
  refine ey_rs (s0 := [jI v1151, jI v1149, jI v1147, jI v1145, jR (some a1153)]) (s1 := [jI v1151, jI v1149, jI v1147, jI v1145, jR (some 76)]) (by rw [w1157.1]) ?_
  obtain ⟨q1158, e1159, e⟩ := jbind e
  refine ey_cv (s0 := [jI v1151, jI v1149, jI v1147, jI v1145, jR (some 76)]) (s1 := []) (st' := [jI q1158.1]) (cd_403 rfl) mt_403 mt_354 rfl rfl rfl (by have w := jhm_is (m := jmf q1143.2) w1157.2.1; rw [w1157.2.2.2] at w; exact w) rfl (jsml_s rfl) rfl (mm_Runs.up (d := 4) (by decide) (by have w := ok_354 (L := L) (xs := xs) (b := q1143.2) (m := jmf q1143.2) w1157.2.1 w1157.2.2.1 e1159; rw [w1157.2.2.2] at w; exact w)) ?_
  obtain ⟨h1160, e1161, e⟩ := jbind e
  obtain rfl : (jhm q1143.2 q1158.2) = h1160 := Option.some.inj e1161
  refine ey_istore (cd_403 rfl) mt_403 rfl ?_
  refine ey_aload_n (cd_403 rfl) f2 ?_
  obtain ⟨a1162, e1163, e⟩ := jbind e
  refine ey_rs (s0 := [jR x2]) (s1 := [jR (some a1162)]) (by rw [e1163]) ?_
  obtain ⟨u1164, e1165, e⟩ := jbind e
  have w1166 := jlk_s e1165
  refine ey_rs (s0 := [jR (some a1162)]) (s1 := [jR (some 76)]) (by rw [w1166.1]) ?_
  refine ey_cv (s0 := [jR (some 76)]) (s1 := []) (st' := [jI (jd_203 (jmf h1160))]) (cd_403 rfl) mt_403 mt_203 rfl rfl rfl (by have w := jhm_is (m := jmf h1160) w1166.2.1; rw [w1166.2.2.2] at w; exact w) rfl (jsml_s rfl) rfl (mm_Runs.up (d := 1) (by decide) (by have w := ok_203 (L := L) (xs := xs) (b := h1160) (m := jmf h1160) w1166.2.1 w1166.2.2.1 ; rw [w1166.2.2.2] at w; exact w)) ?_
  refine ey_iload (cd_403 rfl) (jup_pi (lv := (jup lv 5 (jI q1143.1))) (j := 5) (v := jI q1158.1) (z := q1143.1) rfl) ?_
  by_cases q1167 : (jw (jd_203 (jmf h1160))) = (jw q1143.1)
  · rw [if_pos q1167] at e
    refine ey_ceq (cd_403 rfl) rfl rfl rfl q1167 ?_
    refine ey_iload (cd_403 rfl) (jup_pi (lv := (jup lv 5 (jI q1143.1))) (j := 5) (v := jI q1158.1) (z := q1143.1) rfl) ?_
    by_cases q1168 : (jw q1143.1) = 0
    · rw [if_pos q1168] at e
      refine ey_yne (cd_403 rfl) rfl rfl (fun w => w q1168) ?_
      refine ey_aload_n (cd_403 rfl) f3 ?_
      refine ey_iconst (cd_403 rfl) ?_
      obtain ⟨a1169, e1170, e⟩ := jbind e
      refine ey_rs (s0 := [jI 0, jR x3]) (s1 := [jI 0, jR (some a1169)]) (by rw [e1170]) ?_
      obtain ⟨v1171, e1172, e⟩ := jbind e
      refine ey_lald (cd_403 rfl) e1172 ?_
      refine ey_iload (cd_403 rfl) rfl ?_
      refine ey_i2l (cd_403 rfl) ?_
      refine ey_lcmp (cd_403 rfl) ?_
      by_cases q1173 : (jwl v1171) = (jw q1158.1)
      · rw [if_pos q1173] at e
        refine ey_zeq (cd_403 rfl) rfl rfl ((jlc_eq rfl (jwl_jw _)).mpr q1173) ?_
        exact jk_403_b2726 e K (jup (jup lv 5 (jI q1143.1)) 6 (jI q1158.1)) f0 f1 f2 f3 (jup_o rfl (jup_pi (lv := lv) (j := 4) (v := jI q1143.1) (z := x4) f4))
      · rw [if_neg q1173] at e
        refine ey_yeq (cd_403 rfl) rfl rfl (fun w => q1173 ((jlc_eq rfl (jwl_jw _)).mp w)) ?_
        cases e
    · rw [if_neg q1168] at e
      refine ey_zne (cd_403 rfl) rfl rfl q1168 ?_
      exact jk_403_b2726 e K (jup (jup lv 5 (jI q1143.1)) 6 (jI q1158.1)) f0 f1 f2 f3 (jup_o rfl (jup_pi (lv := lv) (j := 4) (v := jI q1143.1) (z := x4) f4))
  · rw [if_neg q1167] at e
    refine ey_neq (cd_403 rfl) rfl rfl rfl q1167 ?_
    cases e
def jd_403_b2729 (L : Nat) (xs : Nat → Int32) (x1 : Option Nat) (x2 : Option Nat) (x3 : Option Nat) (x4 : Int) (h : jH) : Option ((Int × jH) ⊕ jH) :=
  ((jsc L xs (x4 + 1)).bind fun v1175 => ((jsc L xs (x4 + 2)).bind fun v1177 => ((jsc L xs (x4 + 3)).bind fun v1179 => ((jsc L xs (x4 + 4)).bind fun v1181 => ((jd_396 x1 v1175 v1177 v1179 v1181 h).bind fun q1183 => ((jsc L xs (x4 + 1)).bind fun v1185 => ((jsc L xs (x4 + 2)).bind fun v1187 => ((jsc L xs (x4 + 3)).bind fun v1189 => ((jsc L xs (x4 + 4)).bind fun v1191 => ((x2).bind fun a1193 => ((jlk q1183.2 a1193).bind fun u1195 => ((jd_356 v1185 v1187 v1189 v1191 (jmf q1183.2)).bind fun m1198 => ((some (jhm q1183.2 m1198)).bind fun h1200 => ((x2).bind fun a1202 => ((jlk h1200 a1202).bind fun u1204 => (if (jw (jd_203 (jmf h1200))) = (jw q1183.1) then jd_403_b3169 L xs x1 x2 x3 x4 h1200 else none))))))))))))))))
set_option maxRecDepth 100000 in
theorem jk_403_b2729 {L : Nat} {xs : Nat → Int32} {x1 : Option Nat} {x2 : Option Nat} {x3 : Option Nat} {x4 : Int} {h : jH} {o : ((Int × jH) ⊕ jH)} {r : mm_R} (e : jd_403_b2729 L xs x1 x2 x3 x4 h = some o) (K : jsm (fun s => (∀ lv : jL, lv 0 = some (jR (some 1000000)) → lv 1 = some (jR x1) → lv 2 = some (jR x2) → lv 3 = some (jR x3) → lv 4 = some (jI s.1) → ey (mm_xt L xs) 72 403 23 lv [] s.2 r)) (fun x => (∀ lv : jL, ey (mm_xt L xs) 72 403 3175 lv [] x r)) o) : ∀ lv : jL, lv 0 = some (jR (some 1000000)) → lv 1 = some (jR x1) → lv 2 = some (jR x2) → lv 3 = some (jR x3) → lv 4 = some (jI x4) → ey (mm_xt L xs) 72 403 2729 lv [] h r := by
  intro lv f0 f1 f2 f3 f4
  unfold jd_403_b2729 at e
  refine ey_aload_n (cd_403 rfl) f1 ?_
  refine ey_aload_n (cd_403 rfl) f0 ?_
  refine ey_iload (cd_403 rfl) f4 ?_
  refine ey_iconst (cd_403 rfl) ?_
  refine ey_iadd (cd_403 rfl) ?_
  obtain ⟨v1175, e1176, e⟩ := jbind e
  refine ey_iasc (cd_403 rfl) e1176 ?_
  refine ey_aload_n (cd_403 rfl) f0 ?_
  refine ey_iload (cd_403 rfl) f4 ?_
  refine ey_iconst (cd_403 rfl) ?_
  refine ey_iadd (cd_403 rfl) ?_
  obtain ⟨v1177, e1178, e⟩ := jbind e
  refine ey_iasc (cd_403 rfl) e1178 ?_
  refine ey_aload_n (cd_403 rfl) f0 ?_
  refine ey_iload (cd_403 rfl) f4 ?_
  refine ey_iconst (cd_403 rfl) ?_
  refine ey_iadd (cd_403 rfl) ?_
  obtain ⟨v1179, e1180, e⟩ := jbind e
  refine ey_iasc (cd_403 rfl) e1180 ?_
  refine ey_aload_n (cd_403 rfl) f0 ?_
  refine ey_iload (cd_403 rfl) f4 ?_
  refine ey_iconst (cd_403 rfl) ?_
  refine ey_iadd (cd_403 rfl) ?_
  obtain ⟨v1181, e1182, e⟩ := jbind e
  refine ey_iasc (cd_403 rfl) e1182 ?_
  obtain ⟨q1183, e1184, e⟩ := jbind e
  refine ey_cs (s0 := [jI v1181, jI v1179, jI v1177, jI v1175, jR x1]) (s1 := []) (st' := [jI q1183.1]) (cd_403 rfl) mt_403 mt_396 rfl (by decide) rfl rfl (jsml_s rfl) rfl (mm_Runs.up (d := 4) (by decide) (ok_396 e1184)) ?_
  refine ey_istore (cd_403 rfl) mt_403 rfl ?_
  refine ey_aload_n (cd_403 rfl) f2 ?_
  refine ey_aload_n (cd_403 rfl) f0 ?_
  refine ey_iload (cd_403 rfl) (jup_pi (lv := lv) (j := 4) (v := jI q1183.1) (z := x4) f4) ?_
  refine ey_iconst (cd_403 rfl) ?_
  refine ey_iadd (cd_403 rfl) ?_
  obtain ⟨v1185, e1186, e⟩ := jbind e
  refine ey_iasc (cd_403 rfl) e1186 ?_
  refine ey_aload_n (cd_403 rfl) f0 ?_
  refine ey_iload (cd_403 rfl) (jup_pi (lv := lv) (j := 4) (v := jI q1183.1) (z := x4) f4) ?_
  refine ey_iconst (cd_403 rfl) ?_
  refine ey_iadd (cd_403 rfl) ?_
  obtain ⟨v1187, e1188, e⟩ := jbind e
  refine ey_iasc (cd_403 rfl) e1188 ?_
  refine ey_aload_n (cd_403 rfl) f0 ?_
  refine ey_iload (cd_403 rfl) (jup_pi (lv := lv) (j := 4) (v := jI q1183.1) (z := x4) f4) ?_
  refine ey_iconst (cd_403 rfl) ?_
  refine ey_iadd (cd_403 rfl) ?_
  obtain ⟨v1189, e1190, e⟩ := jbind e
  refine ey_iasc (cd_403 rfl) e1190 ?_
  refine ey_aload_n (cd_403 rfl) f0 ?_
  refine ey_iload (cd_403 rfl) (jup_pi (lv := lv) (j := 4) (v := jI q1183.1) (z := x4) f4) ?_
  refine ey_iconst (cd_403 rfl) ?_
  refine ey_iadd (cd_403 rfl) ?_
  obtain ⟨v1191, e1192, e⟩ := jbind e
  refine ey_iasc (cd_403 rfl) e1192 ?_
  obtain ⟨a1193, e1194, e⟩ := jbind e
  refine ey_rs (s0 := [jI v1191, jI v1189, jI v1187, jI v1185, jR x2]) (s1 := [jI v1191, jI v1189, jI v1187, jI v1185, jR (some a1193)]) (by rw [e1194]) ?_
  obtain ⟨u1195, e1196, e⟩ := jbind e
  have w1197 := jlk_s e1196
  refine ey_rs (s0 := [jI v1191, jI v1189, jI v1187, jI v1185, jR (some a1193)]) (s1 := [jI v1191, jI v1189, jI v1187, jI v1185, jR (some 76)]) (by rw [w1197.1]) ?_
  obtain ⟨m1198, e1199, e⟩ := jbind e
  refine ey_cv (s0 := [jI v1191, jI v1189, jI v1187, jI v1185, jR (some 76)]) (s1 := []) (st' := []) (cd_403 rfl) mt_403 mt_356 rfl rfl rfl (by have w := jhm_is (m := jmf q1183.2) w1197.2.1; rw [w1197.2.2.2] at w; exact w) rfl (jsml_s rfl) rfl (mm_Runs.up (d := 3) (by decide) (by have w := ok_356 (L := L) (xs := xs) (b := q1183.2) (m := jmf q1183.2) w1197.2.1 w1197.2.2.1 e1199; rw [w1197.2.2.2] at w; exact w)) ?_
  obtain ⟨h1200, e1201, e⟩ := jbind e
  obtain rfl : (jhm q1183.2 m1198) = h1200 := Option.some.inj e1201
  refine ey_aload_n (cd_403 rfl) f2 ?_
  obtain ⟨a1202, e1203, e⟩ := jbind e
  refine ey_rs (s0 := [jR x2]) (s1 := [jR (some a1202)]) (by rw [e1203]) ?_
  obtain ⟨u1204, e1205, e⟩ := jbind e
  have w1206 := jlk_s e1205
  refine ey_rs (s0 := [jR (some a1202)]) (s1 := [jR (some 76)]) (by rw [w1206.1]) ?_
  refine ey_cv (s0 := [jR (some 76)]) (s1 := []) (st' := [jI (jd_203 (jmf h1200))]) (cd_403 rfl) mt_403 mt_203 rfl rfl rfl (by have w := jhm_is (m := jmf h1200) w1206.2.1; rw [w1206.2.2.2] at w; exact w) rfl (jsml_s rfl) rfl (mm_Runs.up (d := 1) (by decide) (by have w := ok_203 (L := L) (xs := xs) (b := h1200) (m := jmf h1200) w1206.2.1 w1206.2.2.1 ; rw [w1206.2.2.2] at w; exact w)) ?_
  refine ey_iload (cd_403 rfl) rfl ?_
  by_cases q1207 : (jw (jd_203 (jmf h1200))) = (jw q1183.1)
  · rw [if_pos q1207] at e
    refine ey_ceq (cd_403 rfl) rfl rfl rfl q1207 ?_
    refine ey_goto (cd_403 rfl) rfl ?_
    exact jk_403_b3169 e K (jup lv 5 (jI q1183.1)) f0 f1 f2 f3 (jup_pi (lv := lv) (j := 4) (v := jI q1183.1) (z := x4) f4)
  · rw [if_neg q1207] at e
    refine ey_neq (cd_403 rfl) rfl rfl rfl q1207 ?_
    cases e
def jd_403_b2854 (L : Nat) (xs : Nat → Int32) (x1 : Option Nat) (x2 : Option Nat) (x3 : Option Nat) (x4 : Int) (h : jH) : Option ((Int × jH) ⊕ jH) :=
  jd_403_b3169 L xs x1 x2 x3 x4 h
set_option maxRecDepth 100000 in
theorem jk_403_b2854 {L : Nat} {xs : Nat → Int32} {x1 : Option Nat} {x2 : Option Nat} {x3 : Option Nat} {x4 : Int} {h : jH} {o : ((Int × jH) ⊕ jH)} {r : mm_R} (e : jd_403_b2854 L xs x1 x2 x3 x4 h = some o) (K : jsm (fun s => (∀ lv : jL, lv 0 = some (jR (some 1000000)) → lv 1 = some (jR x1) → lv 2 = some (jR x2) → lv 3 = some (jR x3) → lv 4 = some (jI s.1) → ey (mm_xt L xs) 72 403 23 lv [] s.2 r)) (fun x => (∀ lv : jL, ey (mm_xt L xs) 72 403 3175 lv [] x r)) o) : ∀ lv : jL, lv 0 = some (jR (some 1000000)) → lv 1 = some (jR x1) → lv 2 = some (jR x2) → lv 3 = some (jR x3) → lv 4 = some (jI x4) → ey (mm_xt L xs) 72 403 2854 lv [] h r := by
  intro lv f0 f1 f2 f3 f4
  unfold jd_403_b2854 at e
  refine ey_goto (cd_403 rfl) rfl ?_
  exact jk_403_b3169 e K lv f0 f1 f2 f3 f4
def jd_403_b2801 (L : Nat) (xs : Nat → Int32) (x1 : Option Nat) (x2 : Option Nat) (x3 : Option Nat) (x4 : Int) (h : jH) : Option ((Int × jH) ⊕ jH) :=
  ((jsc L xs (x4 + 1)).bind fun v1209 => ((jd_397 x1 v1209 x3 h).bind fun q1211 => ((jsc L xs (x4 + 1)).bind fun v1213 => ((x2).bind fun a1215 => ((jlk q1211.2 a1215).bind fun u1217 => ((jd_359 v1213 (jmf q1211.2)).bind fun q1220 => ((some (jhm q1211.2 q1220.2)).bind fun h1222 => ((x2).bind fun a1224 => ((jlk h1222 a1224).bind fun u1226 => (if (jw (jd_203 (jmf h1222))) = (jw q1211.1) then (if (jw q1211.1) = 0 then ((x3).bind fun a1231 => ((jal h1222 a1231 0).bind fun v1233 => (if (jwl v1233) = (jw q1220.1) then jd_403_b2854 L xs x1 x2 x3 x4 h1222 else none))) else jd_403_b2854 L xs x1 x2 x3 x4 h1222) else none))))))))))
set_option maxRecDepth 100000 in
theorem jk_403_b2801 {L : Nat} {xs : Nat → Int32} {x1 : Option Nat} {x2 : Option Nat} {x3 : Option Nat} {x4 : Int} {h : jH} {o : ((Int × jH) ⊕ jH)} {r : mm_R} (e : jd_403_b2801 L xs x1 x2 x3 x4 h = some o) (K : jsm (fun s => (∀ lv : jL, lv 0 = some (jR (some 1000000)) → lv 1 = some (jR x1) → lv 2 = some (jR x2) → lv 3 = some (jR x3) → lv 4 = some (jI s.1) → ey (mm_xt L xs) 72 403 23 lv [] s.2 r)) (fun x => (∀ lv : jL, ey (mm_xt L xs) 72 403 3175 lv [] x r)) o) : ∀ lv : jL, lv 0 = some (jR (some 1000000)) → lv 1 = some (jR x1) → lv 2 = some (jR x2) → lv 3 = some (jR x3) → lv 4 = some (jI x4) → ey (mm_xt L xs) 72 403 2801 lv [] h r := by
  intro lv f0 f1 f2 f3 f4
  unfold jd_403_b2801 at e
  refine ey_aload_n (cd_403 rfl) f1 ?_
  refine ey_aload_n (cd_403 rfl) f0 ?_
  refine ey_iload (cd_403 rfl) f4 ?_
  refine ey_iconst (cd_403 rfl) ?_
  refine ey_iadd (cd_403 rfl) ?_
  obtain ⟨v1209, e1210, e⟩ := jbind e
  refine ey_iasc (cd_403 rfl) e1210 ?_
  refine ey_aload_n (cd_403 rfl) f3 ?_
  obtain ⟨q1211, e1212, e⟩ := jbind e
  refine ey_cs (s0 := [jR x3, jI v1209, jR x1]) (s1 := []) (st' := [jI q1211.1]) (cd_403 rfl) mt_403 mt_397 rfl (by decide) rfl rfl (jsml_s rfl) rfl (mm_Runs.up (d := 9) (by decide) (ok_397 e1212)) ?_
  refine ey_istore (cd_403 rfl) mt_403 rfl ?_
  refine ey_aload_n (cd_403 rfl) f2 ?_
  refine ey_aload_n (cd_403 rfl) f0 ?_
  refine ey_iload (cd_403 rfl) (jup_pi (lv := lv) (j := 4) (v := jI q1211.1) (z := x4) f4) ?_
  refine ey_iconst (cd_403 rfl) ?_
  refine ey_iadd (cd_403 rfl) ?_
  obtain ⟨v1213, e1214, e⟩ := jbind e
  refine ey_iasc (cd_403 rfl) e1214 ?_
  obtain ⟨a1215, e1216, e⟩ := jbind e
  refine ey_rs (s0 := [jI v1213, jR x2]) (s1 := [jI v1213, jR (some a1215)]) (by rw [e1216]) ?_
  obtain ⟨u1217, e1218, e⟩ := jbind e
  have w1219 := jlk_s e1218
  refine ey_rs (s0 := [jI v1213, jR (some a1215)]) (s1 := [jI v1213, jR (some 76)]) (by rw [w1219.1]) ?_
  obtain ⟨q1220, e1221, e⟩ := jbind e
  refine ey_cv (s0 := [jI v1213, jR (some 76)]) (s1 := []) (st' := [jI q1220.1]) (cd_403 rfl) mt_403 mt_359 rfl rfl rfl (by have w := jhm_is (m := jmf q1211.2) w1219.2.1; rw [w1219.2.2.2] at w; exact w) rfl (jsml_s rfl) rfl (mm_Runs.up (d := 10) (by decide) (by have w := ok_359 (L := L) (xs := xs) (b := q1211.2) (m := jmf q1211.2) w1219.2.1 w1219.2.2.1 e1221; rw [w1219.2.2.2] at w; exact w)) ?_
  obtain ⟨h1222, e1223, e⟩ := jbind e
  obtain rfl : (jhm q1211.2 q1220.2) = h1222 := Option.some.inj e1223
  refine ey_istore (cd_403 rfl) mt_403 rfl ?_
  refine ey_aload_n (cd_403 rfl) f2 ?_
  obtain ⟨a1224, e1225, e⟩ := jbind e
  refine ey_rs (s0 := [jR x2]) (s1 := [jR (some a1224)]) (by rw [e1225]) ?_
  obtain ⟨u1226, e1227, e⟩ := jbind e
  have w1228 := jlk_s e1227
  refine ey_rs (s0 := [jR (some a1224)]) (s1 := [jR (some 76)]) (by rw [w1228.1]) ?_
  refine ey_cv (s0 := [jR (some 76)]) (s1 := []) (st' := [jI (jd_203 (jmf h1222))]) (cd_403 rfl) mt_403 mt_203 rfl rfl rfl (by have w := jhm_is (m := jmf h1222) w1228.2.1; rw [w1228.2.2.2] at w; exact w) rfl (jsml_s rfl) rfl (mm_Runs.up (d := 1) (by decide) (by have w := ok_203 (L := L) (xs := xs) (b := h1222) (m := jmf h1222) w1228.2.1 w1228.2.2.1 ; rw [w1228.2.2.2] at w; exact w)) ?_
  refine ey_iload (cd_403 rfl) (jup_pi (lv := (jup lv 5 (jI q1211.1))) (j := 5) (v := jI q1220.1) (z := q1211.1) rfl) ?_
  by_cases q1229 : (jw (jd_203 (jmf h1222))) = (jw q1211.1)
  · rw [if_pos q1229] at e
    refine ey_ceq (cd_403 rfl) rfl rfl rfl q1229 ?_
    refine ey_iload (cd_403 rfl) (jup_pi (lv := (jup lv 5 (jI q1211.1))) (j := 5) (v := jI q1220.1) (z := q1211.1) rfl) ?_
    by_cases q1230 : (jw q1211.1) = 0
    · rw [if_pos q1230] at e
      refine ey_yne (cd_403 rfl) rfl rfl (fun w => w q1230) ?_
      refine ey_aload_n (cd_403 rfl) f3 ?_
      refine ey_iconst (cd_403 rfl) ?_
      obtain ⟨a1231, e1232, e⟩ := jbind e
      refine ey_rs (s0 := [jI 0, jR x3]) (s1 := [jI 0, jR (some a1231)]) (by rw [e1232]) ?_
      obtain ⟨v1233, e1234, e⟩ := jbind e
      refine ey_lald (cd_403 rfl) e1234 ?_
      refine ey_iload (cd_403 rfl) rfl ?_
      refine ey_i2l (cd_403 rfl) ?_
      refine ey_lcmp (cd_403 rfl) ?_
      by_cases q1235 : (jwl v1233) = (jw q1220.1)
      · rw [if_pos q1235] at e
        refine ey_zeq (cd_403 rfl) rfl rfl ((jlc_eq rfl (jwl_jw _)).mpr q1235) ?_
        exact jk_403_b2854 e K (jup (jup lv 5 (jI q1211.1)) 6 (jI q1220.1)) f0 f1 f2 f3 (jup_o rfl (jup_pi (lv := lv) (j := 4) (v := jI q1211.1) (z := x4) f4))
      · rw [if_neg q1235] at e
        refine ey_yeq (cd_403 rfl) rfl rfl (fun w => q1235 ((jlc_eq rfl (jwl_jw _)).mp w)) ?_
        cases e
    · rw [if_neg q1230] at e
      refine ey_zne (cd_403 rfl) rfl rfl q1230 ?_
      exact jk_403_b2854 e K (jup (jup lv 5 (jI q1211.1)) 6 (jI q1220.1)) f0 f1 f2 f3 (jup_o rfl (jup_pi (lv := lv) (j := 4) (v := jI q1211.1) (z := x4) f4))
  · rw [if_neg q1229] at e
    refine ey_neq (cd_403 rfl) rfl rfl rfl q1229 ?_
    cases e
def jd_403_b2857 (L : Nat) (xs : Nat → Int32) (x1 : Option Nat) (x2 : Option Nat) (x3 : Option Nat) (x4 : Int) (h : jH) : Option ((Int × jH) ⊕ jH) :=
  ((jsc L xs (x4 + 1)).bind fun v1237 => ((jsc L xs (x4 + 2)).bind fun v1239 => ((jd_398 x1 v1237 v1239 h).bind fun q1241 => ((jsc L xs (x4 + 1)).bind fun v1243 => ((jsc L xs (x4 + 2)).bind fun v1245 => ((x2).bind fun a1247 => ((jlk q1241.2 a1247).bind fun u1249 => ((jd_360 v1243 v1245 (jmf q1241.2)).bind fun m1252 => ((some (jhm q1241.2 m1252)).bind fun h1254 => ((x2).bind fun a1256 => ((jlk h1254 a1256).bind fun u1258 => (if (jw (jd_203 (jmf h1254))) = (jw q1241.1) then jd_403_b3169 L xs x1 x2 x3 x4 h1254 else none))))))))))))
set_option maxRecDepth 100000 in
theorem jk_403_b2857 {L : Nat} {xs : Nat → Int32} {x1 : Option Nat} {x2 : Option Nat} {x3 : Option Nat} {x4 : Int} {h : jH} {o : ((Int × jH) ⊕ jH)} {r : mm_R} (e : jd_403_b2857 L xs x1 x2 x3 x4 h = some o) (K : jsm (fun s => (∀ lv : jL, lv 0 = some (jR (some 1000000)) → lv 1 = some (jR x1) → lv 2 = some (jR x2) → lv 3 = some (jR x3) → lv 4 = some (jI s.1) → ey (mm_xt L xs) 72 403 23 lv [] s.2 r)) (fun x => (∀ lv : jL, ey (mm_xt L xs) 72 403 3175 lv [] x r)) o) : ∀ lv : jL, lv 0 = some (jR (some 1000000)) → lv 1 = some (jR x1) → lv 2 = some (jR x2) → lv 3 = some (jR x3) → lv 4 = some (jI x4) → ey (mm_xt L xs) 72 403 2857 lv [] h r := by
  intro lv f0 f1 f2 f3 f4
  unfold jd_403_b2857 at e
  refine ey_aload_n (cd_403 rfl) f1 ?_
  refine ey_aload_n (cd_403 rfl) f0 ?_
  refine ey_iload (cd_403 rfl) f4 ?_
  refine ey_iconst (cd_403 rfl) ?_
  refine ey_iadd (cd_403 rfl) ?_
  obtain ⟨v1237, e1238, e⟩ := jbind e
  refine ey_iasc (cd_403 rfl) e1238 ?_
  refine ey_aload_n (cd_403 rfl) f0 ?_
  refine ey_iload (cd_403 rfl) f4 ?_
  refine ey_iconst (cd_403 rfl) ?_
  refine ey_iadd (cd_403 rfl) ?_
  obtain ⟨v1239, e1240, e⟩ := jbind e
  refine ey_iasc (cd_403 rfl) e1240 ?_
  obtain ⟨q1241, e1242, e⟩ := jbind e
  refine ey_cs (s0 := [jI v1239, jI v1237, jR x1]) (s1 := []) (st' := [jI q1241.1]) (cd_403 rfl) mt_403 mt_398 rfl (by decide) rfl rfl (jsml_s rfl) rfl (mm_Runs.up (d := 4) (by decide) (ok_398 e1242)) ?_
  refine ey_istore (cd_403 rfl) mt_403 rfl ?_
  refine ey_aload_n (cd_403 rfl) f2 ?_
  refine ey_aload_n (cd_403 rfl) f0 ?_
  refine ey_iload (cd_403 rfl) (jup_pi (lv := lv) (j := 4) (v := jI q1241.1) (z := x4) f4) ?_
  refine ey_iconst (cd_403 rfl) ?_
  refine ey_iadd (cd_403 rfl) ?_
  obtain ⟨v1243, e1244, e⟩ := jbind e
  refine ey_iasc (cd_403 rfl) e1244 ?_
  refine ey_aload_n (cd_403 rfl) f0 ?_
  refine ey_iload (cd_403 rfl) (jup_pi (lv := lv) (j := 4) (v := jI q1241.1) (z := x4) f4) ?_
  refine ey_iconst (cd_403 rfl) ?_
  refine ey_iadd (cd_403 rfl) ?_
  obtain ⟨v1245, e1246, e⟩ := jbind e
  refine ey_iasc (cd_403 rfl) e1246 ?_
  obtain ⟨a1247, e1248, e⟩ := jbind e
  refine ey_rs (s0 := [jI v1245, jI v1243, jR x2]) (s1 := [jI v1245, jI v1243, jR (some a1247)]) (by rw [e1248]) ?_
  obtain ⟨u1249, e1250, e⟩ := jbind e
  have w1251 := jlk_s e1250
  refine ey_rs (s0 := [jI v1245, jI v1243, jR (some a1247)]) (s1 := [jI v1245, jI v1243, jR (some 76)]) (by rw [w1251.1]) ?_
  obtain ⟨m1252, e1253, e⟩ := jbind e
  refine ey_cv (s0 := [jI v1245, jI v1243, jR (some 76)]) (s1 := []) (st' := []) (cd_403 rfl) mt_403 mt_360 rfl rfl rfl (by have w := jhm_is (m := jmf q1241.2) w1251.2.1; rw [w1251.2.2.2] at w; exact w) rfl (jsml_s rfl) rfl (mm_Runs.up (d := 4) (by decide) (by have w := ok_360 (L := L) (xs := xs) (b := q1241.2) (m := jmf q1241.2) w1251.2.1 w1251.2.2.1 e1253; rw [w1251.2.2.2] at w; exact w)) ?_
  obtain ⟨h1254, e1255, e⟩ := jbind e
  obtain rfl : (jhm q1241.2 m1252) = h1254 := Option.some.inj e1255
  refine ey_aload_n (cd_403 rfl) f2 ?_
  obtain ⟨a1256, e1257, e⟩ := jbind e
  refine ey_rs (s0 := [jR x2]) (s1 := [jR (some a1256)]) (by rw [e1257]) ?_
  obtain ⟨u1258, e1259, e⟩ := jbind e
  have w1260 := jlk_s e1259
  refine ey_rs (s0 := [jR (some a1256)]) (s1 := [jR (some 76)]) (by rw [w1260.1]) ?_
  refine ey_cv (s0 := [jR (some 76)]) (s1 := []) (st' := [jI (jd_203 (jmf h1254))]) (cd_403 rfl) mt_403 mt_203 rfl rfl rfl (by have w := jhm_is (m := jmf h1254) w1260.2.1; rw [w1260.2.2.2] at w; exact w) rfl (jsml_s rfl) rfl (mm_Runs.up (d := 1) (by decide) (by have w := ok_203 (L := L) (xs := xs) (b := h1254) (m := jmf h1254) w1260.2.1 w1260.2.2.1 ; rw [w1260.2.2.2] at w; exact w)) ?_
  refine ey_iload (cd_403 rfl) rfl ?_
  by_cases q1261 : (jw (jd_203 (jmf h1254))) = (jw q1241.1)
  · rw [if_pos q1261] at e
    refine ey_ceq (cd_403 rfl) rfl rfl rfl q1261 ?_
    refine ey_goto (cd_403 rfl) rfl ?_
    exact jk_403_b3169 e K (jup lv 5 (jI q1241.1)) f0 f1 f2 f3 (jup_pi (lv := lv) (j := 4) (v := jI q1241.1) (z := x4) f4)
  · rw [if_neg q1261] at e
    refine ey_neq (cd_403 rfl) rfl rfl rfl q1261 ?_
    cases e
def jd_403_b2905 (L : Nat) (xs : Nat → Int32) (x1 : Option Nat) (x2 : Option Nat) (x3 : Option Nat) (x4 : Int) (h : jH) : Option ((Int × jH) ⊕ jH) :=
  ((jsc L xs (x4 + 1)).bind fun v1263 => ((jsc L xs (x4 + 2)).bind fun v1265 => ((jd_399 x1 v1263 v1265 h).bind fun q1267 => ((jsc L xs (x4 + 1)).bind fun v1269 => ((jsc L xs (x4 + 2)).bind fun v1271 => ((x2).bind fun a1273 => ((jlk q1267.2 a1273).bind fun u1275 => ((jd_361 v1269 v1271 (jmf q1267.2)).bind fun m1278 => ((some (jhm q1267.2 m1278)).bind fun h1280 => ((x2).bind fun a1282 => ((jlk h1280 a1282).bind fun u1284 => (if (jw (jd_203 (jmf h1280))) = (jw q1267.1) then jd_403_b3169 L xs x1 x2 x3 x4 h1280 else none))))))))))))
set_option maxRecDepth 100000 in
theorem jk_403_b2905 {L : Nat} {xs : Nat → Int32} {x1 : Option Nat} {x2 : Option Nat} {x3 : Option Nat} {x4 : Int} {h : jH} {o : ((Int × jH) ⊕ jH)} {r : mm_R} (e : jd_403_b2905 L xs x1 x2 x3 x4 h = some o) (K : jsm (fun s => (∀ lv : jL, lv 0 = some (jR (some 1000000)) → lv 1 = some (jR x1) → lv 2 = some (jR x2) → lv 3 = some (jR x3) → lv 4 = some (jI s.1) → ey (mm_xt L xs) 72 403 23 lv [] s.2 r)) (fun x => (∀ lv : jL, ey (mm_xt L xs) 72 403 3175 lv [] x r)) o) : ∀ lv : jL, lv 0 = some (jR (some 1000000)) → lv 1 = some (jR x1) → lv 2 = some (jR x2) → lv 3 = some (jR x3) → lv 4 = some (jI x4) → ey (mm_xt L xs) 72 403 2905 lv [] h r := by
  intro lv f0 f1 f2 f3 f4
  unfold jd_403_b2905 at e
  refine ey_aload_n (cd_403 rfl) f1 ?_
  refine ey_aload_n (cd_403 rfl) f0 ?_
  refine ey_iload (cd_403 rfl) f4 ?_
  refine ey_iconst (cd_403 rfl) ?_
  refine ey_iadd (cd_403 rfl) ?_
  obtain ⟨v1263, e1264, e⟩ := jbind e
  refine ey_iasc (cd_403 rfl) e1264 ?_
  refine ey_aload_n (cd_403 rfl) f0 ?_
  refine ey_iload (cd_403 rfl) f4 ?_
  refine ey_iconst (cd_403 rfl) ?_
  refine ey_iadd (cd_403 rfl) ?_
  obtain ⟨v1265, e1266, e⟩ := jbind e
  refine ey_iasc (cd_403 rfl) e1266 ?_
  obtain ⟨q1267, e1268, e⟩ := jbind e
  refine ey_cs (s0 := [jI v1265, jI v1263, jR x1]) (s1 := []) (st' := [jI q1267.1]) (cd_403 rfl) mt_403 mt_399 rfl (by decide) rfl rfl (jsml_s rfl) rfl (mm_Runs.up (d := 4) (by decide) (ok_399 e1268)) ?_
  refine ey_istore (cd_403 rfl) mt_403 rfl ?_
  refine ey_aload_n (cd_403 rfl) f2 ?_
  refine ey_aload_n (cd_403 rfl) f0 ?_
  refine ey_iload (cd_403 rfl) (jup_pi (lv := lv) (j := 4) (v := jI q1267.1) (z := x4) f4) ?_
  refine ey_iconst (cd_403 rfl) ?_
  refine ey_iadd (cd_403 rfl) ?_
  obtain ⟨v1269, e1270, e⟩ := jbind e
  refine ey_iasc (cd_403 rfl) e1270 ?_
  refine ey_aload_n (cd_403 rfl) f0 ?_
  refine ey_iload (cd_403 rfl) (jup_pi (lv := lv) (j := 4) (v := jI q1267.1) (z := x4) f4) ?_
  refine ey_iconst (cd_403 rfl) ?_
  refine ey_iadd (cd_403 rfl) ?_
  obtain ⟨v1271, e1272, e⟩ := jbind e
  refine ey_iasc (cd_403 rfl) e1272 ?_
  obtain ⟨a1273, e1274, e⟩ := jbind e
  refine ey_rs (s0 := [jI v1271, jI v1269, jR x2]) (s1 := [jI v1271, jI v1269, jR (some a1273)]) (by rw [e1274]) ?_
  obtain ⟨u1275, e1276, e⟩ := jbind e
  have w1277 := jlk_s e1276
  refine ey_rs (s0 := [jI v1271, jI v1269, jR (some a1273)]) (s1 := [jI v1271, jI v1269, jR (some 76)]) (by rw [w1277.1]) ?_
  obtain ⟨m1278, e1279, e⟩ := jbind e
  refine ey_cv (s0 := [jI v1271, jI v1269, jR (some 76)]) (s1 := []) (st' := []) (cd_403 rfl) mt_403 mt_361 rfl rfl rfl (by have w := jhm_is (m := jmf q1267.2) w1277.2.1; rw [w1277.2.2.2] at w; exact w) rfl (jsml_s rfl) rfl (mm_Runs.up (d := 4) (by decide) (by have w := ok_361 (L := L) (xs := xs) (b := q1267.2) (m := jmf q1267.2) w1277.2.1 w1277.2.2.1 e1279; rw [w1277.2.2.2] at w; exact w)) ?_
  obtain ⟨h1280, e1281, e⟩ := jbind e
  obtain rfl : (jhm q1267.2 m1278) = h1280 := Option.some.inj e1281
  refine ey_aload_n (cd_403 rfl) f2 ?_
  obtain ⟨a1282, e1283, e⟩ := jbind e
  refine ey_rs (s0 := [jR x2]) (s1 := [jR (some a1282)]) (by rw [e1283]) ?_
  obtain ⟨u1284, e1285, e⟩ := jbind e
  have w1286 := jlk_s e1285
  refine ey_rs (s0 := [jR (some a1282)]) (s1 := [jR (some 76)]) (by rw [w1286.1]) ?_
  refine ey_cv (s0 := [jR (some 76)]) (s1 := []) (st' := [jI (jd_203 (jmf h1280))]) (cd_403 rfl) mt_403 mt_203 rfl rfl rfl (by have w := jhm_is (m := jmf h1280) w1286.2.1; rw [w1286.2.2.2] at w; exact w) rfl (jsml_s rfl) rfl (mm_Runs.up (d := 1) (by decide) (by have w := ok_203 (L := L) (xs := xs) (b := h1280) (m := jmf h1280) w1286.2.1 w1286.2.2.1 ; rw [w1286.2.2.2] at w; exact w)) ?_
  refine ey_iload (cd_403 rfl) rfl ?_
  by_cases q1287 : (jw (jd_203 (jmf h1280))) = (jw q1267.1)
  · rw [if_pos q1287] at e
    refine ey_ceq (cd_403 rfl) rfl rfl rfl q1287 ?_
    refine ey_goto (cd_403 rfl) rfl ?_
    exact jk_403_b3169 e K (jup lv 5 (jI q1267.1)) f0 f1 f2 f3 (jup_pi (lv := lv) (j := 4) (v := jI q1267.1) (z := x4) f4)
  · rw [if_neg q1287] at e
    refine ey_neq (cd_403 rfl) rfl rfl rfl q1287 ?_
    cases e
def jd_403_b3018 (L : Nat) (xs : Nat → Int32) (x1 : Option Nat) (x2 : Option Nat) (x3 : Option Nat) (x4 : Int) (h : jH) : Option ((Int × jH) ⊕ jH) :=
  jd_403_b3169 L xs x1 x2 x3 x4 h
set_option maxRecDepth 100000 in
theorem jk_403_b3018 {L : Nat} {xs : Nat → Int32} {x1 : Option Nat} {x2 : Option Nat} {x3 : Option Nat} {x4 : Int} {h : jH} {o : ((Int × jH) ⊕ jH)} {r : mm_R} (e : jd_403_b3018 L xs x1 x2 x3 x4 h = some o) (K : jsm (fun s => (∀ lv : jL, lv 0 = some (jR (some 1000000)) → lv 1 = some (jR x1) → lv 2 = some (jR x2) → lv 3 = some (jR x3) → lv 4 = some (jI s.1) → ey (mm_xt L xs) 72 403 23 lv [] s.2 r)) (fun x => (∀ lv : jL, ey (mm_xt L xs) 72 403 3175 lv [] x r)) o) : ∀ lv : jL, lv 0 = some (jR (some 1000000)) → lv 1 = some (jR x1) → lv 2 = some (jR x2) → lv 3 = some (jR x3) → lv 4 = some (jI x4) → ey (mm_xt L xs) 72 403 3018 lv [] h r := by
  intro lv f0 f1 f2 f3 f4
  unfold jd_403_b3018 at e
  refine ey_goto (cd_403 rfl) rfl ?_
  exact jk_403_b3169 e K lv f0 f1 f2 f3 f4
def jd_403_b2953 (L : Nat) (xs : Nat → Int32) (x1 : Option Nat) (x2 : Option Nat) (x3 : Option Nat) (x4 : Int) (h : jH) : Option ((Int × jH) ⊕ jH) :=
  ((jsc L xs (x4 + 1)).bind fun v1289 => ((jsc L xs (x4 + 2)).bind fun v1291 => ((jd_400 x1 v1289 v1291 x3 h).bind fun q1293 => ((jsc L xs (x4 + 1)).bind fun v1295 => ((jsc L xs (x4 + 2)).bind fun v1297 => ((x2).bind fun a1299 => ((jlk q1293.2 a1299).bind fun u1301 => ((jd_362 v1295 v1297 (jmf q1293.2)).bind fun q1304 => ((some (jhm q1293.2 q1304.2)).bind fun h1306 => ((x2).bind fun a1308 => ((jlk h1306 a1308).bind fun u1310 => (if (jw (jd_203 (jmf h1306))) = (jw q1293.1) then (if (jw q1293.1) = 0 then ((x3).bind fun a1315 => ((jal h1306 a1315 0).bind fun v1317 => (if (jwl v1317) = (jw q1304.1) then jd_403_b3018 L xs x1 x2 x3 x4 h1306 else none))) else jd_403_b3018 L xs x1 x2 x3 x4 h1306) else none))))))))))))
set_option maxRecDepth 100000 in
theorem jk_403_b2953 {L : Nat} {xs : Nat → Int32} {x1 : Option Nat} {x2 : Option Nat} {x3 : Option Nat} {x4 : Int} {h : jH} {o : ((Int × jH) ⊕ jH)} {r : mm_R} (e : jd_403_b2953 L xs x1 x2 x3 x4 h = some o) (K : jsm (fun s => (∀ lv : jL, lv 0 = some (jR (some 1000000)) → lv 1 = some (jR x1) → lv 2 = some (jR x2) → lv 3 = some (jR x3) → lv 4 = some (jI s.1) → ey (mm_xt L xs) 72 403 23 lv [] s.2 r)) (fun x => (∀ lv : jL, ey (mm_xt L xs) 72 403 3175 lv [] x r)) o) : ∀ lv : jL, lv 0 = some (jR (some 1000000)) → lv 1 = some (jR x1) → lv 2 = some (jR x2) → lv 3 = some (jR x3) → lv 4 = some (jI x4) → ey (mm_xt L xs) 72 403 2953 lv [] h r := by
  intro lv f0 f1 f2 f3 f4
  unfold jd_403_b2953 at e
  refine ey_aload_n (cd_403 rfl) f1 ?_
  refine ey_aload_n (cd_403 rfl) f0 ?_
  refine ey_iload (cd_403 rfl) f4 ?_
  refine ey_iconst (cd_403 rfl) ?_
  refine ey_iadd (cd_403 rfl) ?_
  obtain ⟨v1289, e1290, e⟩ := jbind e
  refine ey_iasc (cd_403 rfl) e1290 ?_
  refine ey_aload_n (cd_403 rfl) f0 ?_
  refine ey_iload (cd_403 rfl) f4 ?_
  refine ey_iconst (cd_403 rfl) ?_
  refine ey_iadd (cd_403 rfl) ?_
  obtain ⟨v1291, e1292, e⟩ := jbind e
  refine ey_iasc (cd_403 rfl) e1292 ?_
  refine ey_aload_n (cd_403 rfl) f3 ?_
  obtain ⟨q1293, e1294, e⟩ := jbind e
  refine ey_cs (s0 := [jR x3, jI v1291, jI v1289, jR x1]) (s1 := []) (st' := [jI q1293.1]) (cd_403 rfl) mt_403 mt_400 rfl (by decide) rfl rfl (jsml_s rfl) rfl (mm_Runs.up (d := 3) (by decide) (ok_400 e1294)) ?_
  refine ey_istore (cd_403 rfl) mt_403 rfl ?_
  refine ey_aload_n (cd_403 rfl) f2 ?_
  refine ey_aload_n (cd_403 rfl) f0 ?_
  refine ey_iload (cd_403 rfl) (jup_pi (lv := lv) (j := 4) (v := jI q1293.1) (z := x4) f4) ?_
  refine ey_iconst (cd_403 rfl) ?_
  refine ey_iadd (cd_403 rfl) ?_
  obtain ⟨v1295, e1296, e⟩ := jbind e
  refine ey_iasc (cd_403 rfl) e1296 ?_
  refine ey_aload_n (cd_403 rfl) f0 ?_
  refine ey_iload (cd_403 rfl) (jup_pi (lv := lv) (j := 4) (v := jI q1293.1) (z := x4) f4) ?_
  refine ey_iconst (cd_403 rfl) ?_
  refine ey_iadd (cd_403 rfl) ?_
  obtain ⟨v1297, e1298, e⟩ := jbind e
  refine ey_iasc (cd_403 rfl) e1298 ?_
  obtain ⟨a1299, e1300, e⟩ := jbind e
  refine ey_rs (s0 := [jI v1297, jI v1295, jR x2]) (s1 := [jI v1297, jI v1295, jR (some a1299)]) (by rw [e1300]) ?_
  obtain ⟨u1301, e1302, e⟩ := jbind e
  have w1303 := jlk_s e1302
  refine ey_rs (s0 := [jI v1297, jI v1295, jR (some a1299)]) (s1 := [jI v1297, jI v1295, jR (some 76)]) (by rw [w1303.1]) ?_
  obtain ⟨q1304, e1305, e⟩ := jbind e
  refine ey_cv (s0 := [jI v1297, jI v1295, jR (some 76)]) (s1 := []) (st' := [jI q1304.1]) (cd_403 rfl) mt_403 mt_362 rfl rfl rfl (by have w := jhm_is (m := jmf q1293.2) w1303.2.1; rw [w1303.2.2.2] at w; exact w) rfl (jsml_s rfl) rfl (mm_Runs.up (d := 3) (by decide) (by have w := ok_362 (L := L) (xs := xs) (b := q1293.2) (m := jmf q1293.2) w1303.2.1 w1303.2.2.1 e1305; rw [w1303.2.2.2] at w; exact w)) ?_
  obtain ⟨h1306, e1307, e⟩ := jbind e
  obtain rfl : (jhm q1293.2 q1304.2) = h1306 := Option.some.inj e1307
  refine ey_istore (cd_403 rfl) mt_403 rfl ?_
  refine ey_aload_n (cd_403 rfl) f2 ?_
  obtain ⟨a1308, e1309, e⟩ := jbind e
  refine ey_rs (s0 := [jR x2]) (s1 := [jR (some a1308)]) (by rw [e1309]) ?_
  obtain ⟨u1310, e1311, e⟩ := jbind e
  have w1312 := jlk_s e1311
  refine ey_rs (s0 := [jR (some a1308)]) (s1 := [jR (some 76)]) (by rw [w1312.1]) ?_
  refine ey_cv (s0 := [jR (some 76)]) (s1 := []) (st' := [jI (jd_203 (jmf h1306))]) (cd_403 rfl) mt_403 mt_203 rfl rfl rfl (by have w := jhm_is (m := jmf h1306) w1312.2.1; rw [w1312.2.2.2] at w; exact w) rfl (jsml_s rfl) rfl (mm_Runs.up (d := 1) (by decide) (by have w := ok_203 (L := L) (xs := xs) (b := h1306) (m := jmf h1306) w1312.2.1 w1312.2.2.1 ; rw [w1312.2.2.2] at w; exact w)) ?_
  refine ey_iload (cd_403 rfl) (jup_pi (lv := (jup lv 5 (jI q1293.1))) (j := 5) (v := jI q1304.1) (z := q1293.1) rfl) ?_
  by_cases q1313 : (jw (jd_203 (jmf h1306))) = (jw q1293.1)
  · rw [if_pos q1313] at e
    refine ey_ceq (cd_403 rfl) rfl rfl rfl q1313 ?_
    refine ey_iload (cd_403 rfl) (jup_pi (lv := (jup lv 5 (jI q1293.1))) (j := 5) (v := jI q1304.1) (z := q1293.1) rfl) ?_
    by_cases q1314 : (jw q1293.1) = 0
    · rw [if_pos q1314] at e
      refine ey_yne (cd_403 rfl) rfl rfl (fun w => w q1314) ?_
      refine ey_aload_n (cd_403 rfl) f3 ?_
      refine ey_iconst (cd_403 rfl) ?_
      obtain ⟨a1315, e1316, e⟩ := jbind e
      refine ey_rs (s0 := [jI 0, jR x3]) (s1 := [jI 0, jR (some a1315)]) (by rw [e1316]) ?_
      obtain ⟨v1317, e1318, e⟩ := jbind e
      refine ey_lald (cd_403 rfl) e1318 ?_
      refine ey_iload (cd_403 rfl) rfl ?_
      refine ey_i2l (cd_403 rfl) ?_
      refine ey_lcmp (cd_403 rfl) ?_
      by_cases q1319 : (jwl v1317) = (jw q1304.1)
      · rw [if_pos q1319] at e
        refine ey_zeq (cd_403 rfl) rfl rfl ((jlc_eq rfl (jwl_jw _)).mpr q1319) ?_
        exact jk_403_b3018 e K (jup (jup lv 5 (jI q1293.1)) 6 (jI q1304.1)) f0 f1 f2 f3 (jup_o rfl (jup_pi (lv := lv) (j := 4) (v := jI q1293.1) (z := x4) f4))
      · rw [if_neg q1319] at e
        refine ey_yeq (cd_403 rfl) rfl rfl (fun w => q1319 ((jlc_eq rfl (jwl_jw _)).mp w)) ?_
        cases e
    · rw [if_neg q1314] at e
      refine ey_zne (cd_403 rfl) rfl rfl q1314 ?_
      exact jk_403_b3018 e K (jup (jup lv 5 (jI q1293.1)) 6 (jI q1304.1)) f0 f1 f2 f3 (jup_o rfl (jup_pi (lv := lv) (j := 4) (v := jI q1293.1) (z := x4) f4))
  · rw [if_neg q1313] at e
    refine ey_neq (cd_403 rfl) rfl rfl rfl q1313 ?_
    cases e
def jd_403_b3110 (L : Nat) (xs : Nat → Int32) (x1 : Option Nat) (x2 : Option Nat) (x3 : Option Nat) (x4 : Int) (h : jH) : Option ((Int × jH) ⊕ jH) :=
  jd_403_b3169 L xs x1 x2 x3 x4 h
set_option maxRecDepth 100000 in
theorem jk_403_b3110 {L : Nat} {xs : Nat → Int32} {x1 : Option Nat} {x2 : Option Nat} {x3 : Option Nat} {x4 : Int} {h : jH} {o : ((Int × jH) ⊕ jH)} {r : mm_R} (e : jd_403_b3110 L xs x1 x2 x3 x4 h = some o) (K : jsm (fun s => (∀ lv : jL, lv 0 = some (jR (some 1000000)) → lv 1 = some (jR x1) → lv 2 = some (jR x2) → lv 3 = some (jR x3) → lv 4 = some (jI s.1) → ey (mm_xt L xs) 72 403 23 lv [] s.2 r)) (fun x => (∀ lv : jL, ey (mm_xt L xs) 72 403 3175 lv [] x r)) o) : ∀ lv : jL, lv 0 = some (jR (some 1000000)) → lv 1 = some (jR x1) → lv 2 = some (jR x2) → lv 3 = some (jR x3) → lv 4 = some (jI x4) → ey (mm_xt L xs) 72 403 3110 lv [] h r := by
  intro lv f0 f1 f2 f3 f4
  unfold jd_403_b3110 at e
  refine ey_goto (cd_403 rfl) rfl ?_
  exact jk_403_b3169 e K lv f0 f1 f2 f3 f4
def jd_403_b3021 (L : Nat) (xs : Nat → Int32) (x1 : Option Nat) (x2 : Option Nat) (x3 : Option Nat) (x4 : Int) (h : jH) : Option ((Int × jH) ⊕ jH) :=
  ((jsc L xs (x4 + 1)).bind fun v1321 => ((jsc L xs (x4 + 2)).bind fun v1323 => ((jsc L xs (x4 + 3)).bind fun v1325 => ((jsc L xs (x4 + 4)).bind fun v1327 => ((jd_401 x1 v1321 v1323 v1325 v1327 x3 h).bind fun q1329 => ((jsc L xs (x4 + 1)).bind fun v1331 => ((jsc L xs (x4 + 2)).bind fun v1333 => ((jsc L xs (x4 + 3)).bind fun v1335 => ((jsc L xs (x4 + 4)).bind fun v1337 => ((x2).bind fun a1339 => ((jlk q1329.2 a1339).bind fun u1341 => ((jd_363 v1331 v1333 v1335 v1337 (jmf q1329.2)).bind fun q1344 => ((some (jhm q1329.2 q1344.2)).bind fun h1346 => ((x2).bind fun a1348 => ((jlk h1346 a1348).bind fun u1350 => (if (jw (jd_203 (jmf h1346))) = (jw q1329.1) then (if (jw q1329.1) = 0 then ((x3).bind fun a1355 => ((jal h1346 a1355 0).bind fun v1357 => (if (jwl v1357) = (jw q1344.1) then jd_403_b3110 L xs x1 x2 x3 x4 h1346 else none))) else jd_403_b3110 L xs x1 x2 x3 x4 h1346) else none))))))))))))))))
set_option maxRecDepth 100000 in
theorem jk_403_b3021 {L : Nat} {xs : Nat → Int32} {x1 : Option Nat} {x2 : Option Nat} {x3 : Option Nat} {x4 : Int} {h : jH} {o : ((Int × jH) ⊕ jH)} {r : mm_R} (e : jd_403_b3021 L xs x1 x2 x3 x4 h = some o) (K : jsm (fun s => (∀ lv : jL, lv 0 = some (jR (some 1000000)) → lv 1 = some (jR x1) → lv 2 = some (jR x2) → lv 3 = some (jR x3) → lv 4 = some (jI s.1) → ey (mm_xt L xs) 72 403 23 lv [] s.2 r)) (fun x => (∀ lv : jL, ey (mm_xt L xs) 72 403 3175 lv [] x r)) o) : ∀ lv : jL, lv 0 = some (jR (some 1000000)) → lv 1 = some (jR x1) → lv 2 = some (jR x2) → lv 3 = some (jR x3) → lv 4 = some (jI x4) → ey (mm_xt L xs) 72 403 3021 lv [] h r := by
  intro lv f0 f1 f2 f3 f4
  unfold jd_403_b3021 at e
  refine ey_aload_n (cd_403 rfl) f1 ?_
  refine ey_aload_n (cd_403 rfl) f0 ?_
  refine ey_iload (cd_403 rfl) f4 ?_
  refine ey_iconst (cd_403 rfl) ?_
  refine ey_iadd (cd_403 rfl) ?_
  obtain ⟨v1321, e1322, e⟩ := jbind e
  refine ey_iasc (cd_403 rfl) e1322 ?_
  refine ey_aload_n (cd_403 rfl) f0 ?_
  refine ey_iload (cd_403 rfl) f4 ?_
  refine ey_iconst (cd_403 rfl) ?_
  refine ey_iadd (cd_403 rfl) ?_
  obtain ⟨v1323, e1324, e⟩ := jbind e
  refine ey_iasc (cd_403 rfl) e1324 ?_
  refine ey_aload_n (cd_403 rfl) f0 ?_
  refine ey_iload (cd_403 rfl) f4 ?_
  refine ey_iconst (cd_403 rfl) ?_
  refine ey_iadd (cd_403 rfl) ?_
  obtain ⟨v1325, e1326, e⟩ := jbind e
  refine ey_iasc (cd_403 rfl) e1326 ?_
  refine ey_aload_n (cd_403 rfl) f0 ?_
  refine ey_iload (cd_403 rfl) f4 ?_
  refine ey_iconst (cd_403 rfl) ?_
  refine ey_iadd (cd_403 rfl) ?_
  obtain ⟨v1327, e1328, e⟩ := jbind e
  refine ey_iasc (cd_403 rfl) e1328 ?_
  refine ey_aload_n (cd_403 rfl) f3 ?_
  obtain ⟨q1329, e1330, e⟩ := jbind e
  refine ey_cs (s0 := [jR x3, jI v1327, jI v1325, jI v1323, jI v1321, jR x1]) (s1 := []) (st' := [jI q1329.1]) (cd_403 rfl) mt_403 mt_401 rfl (by decide) rfl rfl (jsml_s rfl) rfl (mm_Runs.up (d := 4) (by decide) (ok_401 e1330)) ?_
  refine ey_istore (cd_403 rfl) mt_403 rfl ?_
  refine ey_aload_n (cd_403 rfl) f2 ?_
  refine ey_aload_n (cd_403 rfl) f0 ?_
  refine ey_iload (cd_403 rfl) (jup_pi (lv := lv) (j := 4) (v := jI q1329.1) (z := x4) f4) ?_
  refine ey_iconst (cd_403 rfl) ?_
  refine ey_iadd (cd_403 rfl) ?_
  obtain ⟨v1331, e1332, e⟩ := jbind e
  refine ey_iasc (cd_403 rfl) e1332 ?_
  refine ey_aload_n (cd_403 rfl) f0 ?_
  refine ey_iload (cd_403 rfl) (jup_pi (lv := lv) (j := 4) (v := jI q1329.1) (z := x4) f4) ?_
  refine ey_iconst (cd_403 rfl) ?_
  refine ey_iadd (cd_403 rfl) ?_
  obtain ⟨v1333, e1334, e⟩ := jbind e
  refine ey_iasc (cd_403 rfl) e1334 ?_
  refine ey_aload_n (cd_403 rfl) f0 ?_
  refine ey_iload (cd_403 rfl) (jup_pi (lv := lv) (j := 4) (v := jI q1329.1) (z := x4) f4) ?_
  refine ey_iconst (cd_403 rfl) ?_
  refine ey_iadd (cd_403 rfl) ?_
  obtain ⟨v1335, e1336, e⟩ := jbind e
  refine ey_iasc (cd_403 rfl) e1336 ?_
  refine ey_aload_n (cd_403 rfl) f0 ?_
  refine ey_iload (cd_403 rfl) (jup_pi (lv := lv) (j := 4) (v := jI q1329.1) (z := x4) f4) ?_
  refine ey_iconst (cd_403 rfl) ?_
  refine ey_iadd (cd_403 rfl) ?_
  obtain ⟨v1337, e1338, e⟩ := jbind e
  refine ey_iasc (cd_403 rfl) e1338 ?_
  obtain ⟨a1339, e1340, e⟩ := jbind e
  refine ey_rs (s0 := [jI v1337, jI v1335, jI v1333, jI v1331, jR x2]) (s1 := [jI v1337, jI v1335, jI v1333, jI v1331, jR (some a1339)]) (by rw [e1340]) ?_
  obtain ⟨u1341, e1342, e⟩ := jbind e
  have w1343 := jlk_s e1342
  refine ey_rs (s0 := [jI v1337, jI v1335, jI v1333, jI v1331, jR (some a1339)]) (s1 := [jI v1337, jI v1335, jI v1333, jI v1331, jR (some 76)]) (by rw [w1343.1]) ?_
  obtain ⟨q1344, e1345, e⟩ := jbind e
  refine ey_cv (s0 := [jI v1337, jI v1335, jI v1333, jI v1331, jR (some 76)]) (s1 := []) (st' := [jI q1344.1]) (cd_403 rfl) mt_403 mt_363 rfl rfl rfl (by have w := jhm_is (m := jmf q1329.2) w1343.2.1; rw [w1343.2.2.2] at w; exact w) rfl (jsml_s rfl) rfl (mm_Runs.up (d := 3) (by decide) (by have w := ok_363 (L := L) (xs := xs) (b := q1329.2) (m := jmf q1329.2) w1343.2.1 w1343.2.2.1 e1345; rw [w1343.2.2.2] at w; exact w)) ?_
  obtain ⟨h1346, e1347, e⟩ := jbind e
  obtain rfl : (jhm q1329.2 q1344.2) = h1346 := Option.some.inj e1347
  refine ey_istore (cd_403 rfl) mt_403 rfl ?_
  refine ey_aload_n (cd_403 rfl) f2 ?_
  obtain ⟨a1348, e1349, e⟩ := jbind e
  refine ey_rs (s0 := [jR x2]) (s1 := [jR (some a1348)]) (by rw [e1349]) ?_
  obtain ⟨u1350, e1351, e⟩ := jbind e
  have w1352 := jlk_s e1351
  refine ey_rs (s0 := [jR (some a1348)]) (s1 := [jR (some 76)]) (by rw [w1352.1]) ?_
  refine ey_cv (s0 := [jR (some 76)]) (s1 := []) (st' := [jI (jd_203 (jmf h1346))]) (cd_403 rfl) mt_403 mt_203 rfl rfl rfl (by have w := jhm_is (m := jmf h1346) w1352.2.1; rw [w1352.2.2.2] at w; exact w) rfl (jsml_s rfl) rfl (mm_Runs.up (d := 1) (by decide) (by have w := ok_203 (L := L) (xs := xs) (b := h1346) (m := jmf h1346) w1352.2.1 w1352.2.2.1 ; rw [w1352.2.2.2] at w; exact w)) ?_
  refine ey_iload (cd_403 rfl) (jup_pi (lv := (jup lv 5 (jI q1329.1))) (j := 5) (v := jI q1344.1) (z := q1329.1) rfl) ?_
  by_cases q1353 : (jw (jd_203 (jmf h1346))) = (jw q1329.1)
  · rw [if_pos q1353] at e
    refine ey_ceq (cd_403 rfl) rfl rfl rfl q1353 ?_
    refine ey_iload (cd_403 rfl) (jup_pi (lv := (jup lv 5 (jI q1329.1))) (j := 5) (v := jI q1344.1) (z := q1329.1) rfl) ?_
    by_cases q1354 : (jw q1329.1) = 0
    · rw [if_pos q1354] at e
      refine ey_yne (cd_403 rfl) rfl rfl (fun w => w q1354) ?_
      refine ey_aload_n (cd_403 rfl) f3 ?_
      refine ey_iconst (cd_403 rfl) ?_
      obtain ⟨a1355, e1356, e⟩ := jbind e
      refine ey_rs (s0 := [jI 0, jR x3]) (s1 := [jI 0, jR (some a1355)]) (by rw [e1356]) ?_
      obtain ⟨v1357, e1358, e⟩ := jbind e
      refine ey_lald (cd_403 rfl) e1358 ?_
      refine ey_iload (cd_403 rfl) rfl ?_
      refine ey_i2l (cd_403 rfl) ?_
      refine ey_lcmp (cd_403 rfl) ?_
      by_cases q1359 : (jwl v1357) = (jw q1344.1)
      · rw [if_pos q1359] at e
        refine ey_zeq (cd_403 rfl) rfl rfl ((jlc_eq rfl (jwl_jw _)).mpr q1359) ?_
        exact jk_403_b3110 e K (jup (jup lv 5 (jI q1329.1)) 6 (jI q1344.1)) f0 f1 f2 f3 (jup_o rfl (jup_pi (lv := lv) (j := 4) (v := jI q1329.1) (z := x4) f4))
      · rw [if_neg q1359] at e
        refine ey_yeq (cd_403 rfl) rfl rfl (fun w => q1359 ((jlc_eq rfl (jwl_jw _)).mp w)) ?_
        cases e
    · rw [if_neg q1354] at e
      refine ey_zne (cd_403 rfl) rfl rfl q1354 ?_
      exact jk_403_b3110 e K (jup (jup lv 5 (jI q1329.1)) 6 (jI q1344.1)) f0 f1 f2 f3 (jup_o rfl (jup_pi (lv := lv) (j := 4) (v := jI q1329.1) (z := x4) f4))
  · rw [if_neg q1353] at e
    refine ey_neq (cd_403 rfl) rfl rfl rfl q1353 ?_
    cases e
def jd_403_b3166 (L : Nat) (xs : Nat → Int32) (x1 : Option Nat) (x2 : Option Nat) (x3 : Option Nat) (x4 : Int) (h : jH) : Option ((Int × jH) ⊕ jH) :=
  jd_403_b3169 L xs x1 x2 x3 x4 h
set_option maxRecDepth 100000 in
theorem jk_403_b3166 {L : Nat} {xs : Nat → Int32} {x1 : Option Nat} {x2 : Option Nat} {x3 : Option Nat} {x4 : Int} {h : jH} {o : ((Int × jH) ⊕ jH)} {r : mm_R} (e : jd_403_b3166 L xs x1 x2 x3 x4 h = some o) (K : jsm (fun s => (∀ lv : jL, lv 0 = some (jR (some 1000000)) → lv 1 = some (jR x1) → lv 2 = some (jR x2) → lv 3 = some (jR x3) → lv 4 = some (jI s.1) → ey (mm_xt L xs) 72 403 23 lv [] s.2 r)) (fun x => (∀ lv : jL, ey (mm_xt L xs) 72 403 3175 lv [] x r)) o) : ∀ lv : jL, lv 0 = some (jR (some 1000000)) → lv 1 = some (jR x1) → lv 2 = some (jR x2) → lv 3 = some (jR x3) → lv 4 = some (jI x4) → ey (mm_xt L xs) 72 403 3166 lv [] h r := by
  intro lv f0 f1 f2 f3 f4
  unfold jd_403_b3166 at e
  refine ey_goto (cd_403 rfl) rfl ?_
  exact jk_403_b3169 e K lv f0 f1 f2 f3 f4
def jd_403_b3113 (L : Nat) (xs : Nat → Int32) (x1 : Option Nat) (x2 : Option Nat) (x3 : Option Nat) (x4 : Int) (h : jH) : Option ((Int × jH) ⊕ jH) :=
  ((jsc L xs (x4 + 1)).bind fun v1361 => ((jd_402 x1 v1361 x3 h).bind fun q1363 => ((jsc L xs (x4 + 1)).bind fun v1365 => ((x2).bind fun a1367 => ((jlk q1363.2 a1367).bind fun u1369 => ((jd_364 v1365 (jmf q1363.2)).bind fun q1372 => ((some (jhm q1363.2 q1372.2)).bind fun h1374 => ((x2).bind fun a1376 => ((jlk h1374 a1376).bind fun u1378 => (if (jw (jd_203 (jmf h1374))) = (jw q1363.1) then (if (jw q1363.1) = 0 then ((x3).bind fun a1383 => ((jal h1374 a1383 0).bind fun v1385 => (if (jwl v1385) = (jw q1372.1) then jd_403_b3166 L xs x1 x2 x3 x4 h1374 else none))) else jd_403_b3166 L xs x1 x2 x3 x4 h1374) else none))))))))))
set_option maxRecDepth 100000 in
theorem jk_403_b3113 {L : Nat} {xs : Nat → Int32} {x1 : Option Nat} {x2 : Option Nat} {x3 : Option Nat} {x4 : Int} {h : jH} {o : ((Int × jH) ⊕ jH)} {r : mm_R} (e : jd_403_b3113 L xs x1 x2 x3 x4 h = some o) (K : jsm (fun s => (∀ lv : jL, lv 0 = some (jR (some 1000000)) → lv 1 = some (jR x1) → lv 2 = some (jR x2) → lv 3 = some (jR x3) → lv 4 = some (jI s.1) → ey (mm_xt L xs) 72 403 23 lv [] s.2 r)) (fun x => (∀ lv : jL, ey (mm_xt L xs) 72 403 3175 lv [] x r)) o) : ∀ lv : jL, lv 0 = some (jR (some 1000000)) → lv 1 = some (jR x1) → lv 2 = some (jR x2) → lv 3 = some (jR x3) → lv 4 = some (jI x4) → ey (mm_xt L xs) 72 403 3113 lv [] h r := by
  intro lv f0 f1 f2 f3 f4
  unfold jd_403_b3113 at e
  refine ey_aload_n (cd_403 rfl) f1 ?_
  refine ey_aload_n (cd_403 rfl) f0 ?_
  refine ey_iload (cd_403 rfl) f4 ?_
  refine ey_iconst (cd_403 rfl) ?_
  refine ey_iadd (cd_403 rfl) ?_
  obtain ⟨v1361, e1362, e⟩ := jbind e
  refine ey_iasc (cd_403 rfl) e1362 ?_
  refine ey_aload_n (cd_403 rfl) f3 ?_
  obtain ⟨q1363, e1364, e⟩ := jbind e
  refine ey_cs (s0 := [jR x3, jI v1361, jR x1]) (s1 := []) (st' := [jI q1363.1]) (cd_403 rfl) mt_403 mt_402 rfl (by decide) rfl rfl (jsml_s rfl) rfl (mm_Runs.up (d := 3) (by decide) (ok_402 e1364)) ?_
  refine ey_istore (cd_403 rfl) mt_403 rfl ?_
  refine ey_aload_n (cd_403 rfl) f2 ?_
  refine ey_aload_n (cd_403 rfl) f0 ?_
  refine ey_iload (cd_403 rfl) (jup_pi (lv := lv) (j := 4) (v := jI q1363.1) (z := x4) f4) ?_
  refine ey_iconst (cd_403 rfl) ?_
  refine ey_iadd (cd_403 rfl) ?_
  obtain ⟨v1365, e1366, e⟩ := jbind e
  refine ey_iasc (cd_403 rfl) e1366 ?_
  obtain ⟨a1367, e1368, e⟩ := jbind e
  refine ey_rs (s0 := [jI v1365, jR x2]) (s1 := [jI v1365, jR (some a1367)]) (by rw [e1368]) ?_
  obtain ⟨u1369, e1370, e⟩ := jbind e
  have w1371 := jlk_s e1370
  refine ey_rs (s0 := [jI v1365, jR (some a1367)]) (s1 := [jI v1365, jR (some 76)]) (by rw [w1371.1]) ?_
  obtain ⟨q1372, e1373, e⟩ := jbind e
  refine ey_cv (s0 := [jI v1365, jR (some 76)]) (s1 := []) (st' := [jI q1372.1]) (cd_403 rfl) mt_403 mt_364 rfl rfl rfl (by have w := jhm_is (m := jmf q1363.2) w1371.2.1; rw [w1371.2.2.2] at w; exact w) rfl (jsml_s rfl) rfl (mm_Runs.up (d := 2) (by decide) (by have w := ok_364 (L := L) (xs := xs) (b := q1363.2) (m := jmf q1363.2) w1371.2.1 w1371.2.2.1 e1373; rw [w1371.2.2.2] at w; exact w)) ?_
  obtain ⟨h1374, e1375, e⟩ := jbind e
  obtain rfl : (jhm q1363.2 q1372.2) = h1374 := Option.some.inj e1375
  refine ey_istore (cd_403 rfl) mt_403 rfl ?_
  refine ey_aload_n (cd_403 rfl) f2 ?_
  obtain ⟨a1376, e1377, e⟩ := jbind e
  refine ey_rs (s0 := [jR x2]) (s1 := [jR (some a1376)]) (by rw [e1377]) ?_
  obtain ⟨u1378, e1379, e⟩ := jbind e
  have w1380 := jlk_s e1379
  refine ey_rs (s0 := [jR (some a1376)]) (s1 := [jR (some 76)]) (by rw [w1380.1]) ?_
  refine ey_cv (s0 := [jR (some 76)]) (s1 := []) (st' := [jI (jd_203 (jmf h1374))]) (cd_403 rfl) mt_403 mt_203 rfl rfl rfl (by have w := jhm_is (m := jmf h1374) w1380.2.1; rw [w1380.2.2.2] at w; exact w) rfl (jsml_s rfl) rfl (mm_Runs.up (d := 1) (by decide) (by have w := ok_203 (L := L) (xs := xs) (b := h1374) (m := jmf h1374) w1380.2.1 w1380.2.2.1 ; rw [w1380.2.2.2] at w; exact w)) ?_
  refine ey_iload (cd_403 rfl) (jup_pi (lv := (jup lv 5 (jI q1363.1))) (j := 5) (v := jI q1372.1) (z := q1363.1) rfl) ?_
  by_cases q1381 : (jw (jd_203 (jmf h1374))) = (jw q1363.1)
  · rw [if_pos q1381] at e
    refine ey_ceq (cd_403 rfl) rfl rfl rfl q1381 ?_
    refine ey_iload (cd_403 rfl) (jup_pi (lv := (jup lv 5 (jI q1363.1))) (j := 5) (v := jI q1372.1) (z := q1363.1) rfl) ?_
    by_cases q1382 : (jw q1363.1) = 0
    · rw [if_pos q1382] at e
      refine ey_yne (cd_403 rfl) rfl rfl (fun w => w q1382) ?_
      refine ey_aload_n (cd_403 rfl) f3 ?_
      refine ey_iconst (cd_403 rfl) ?_
      obtain ⟨a1383, e1384, e⟩ := jbind e
      refine ey_rs (s0 := [jI 0, jR x3]) (s1 := [jI 0, jR (some a1383)]) (by rw [e1384]) ?_
      obtain ⟨v1385, e1386, e⟩ := jbind e
      refine ey_lald (cd_403 rfl) e1386 ?_
      refine ey_iload (cd_403 rfl) rfl ?_
      refine ey_i2l (cd_403 rfl) ?_
      refine ey_lcmp (cd_403 rfl) ?_
      by_cases q1387 : (jwl v1385) = (jw q1372.1)
      · rw [if_pos q1387] at e
        refine ey_zeq (cd_403 rfl) rfl rfl ((jlc_eq rfl (jwl_jw _)).mpr q1387) ?_
        exact jk_403_b3166 e K (jup (jup lv 5 (jI q1363.1)) 6 (jI q1372.1)) f0 f1 f2 f3 (jup_o rfl (jup_pi (lv := lv) (j := 4) (v := jI q1363.1) (z := x4) f4))
      · rw [if_neg q1387] at e
        refine ey_yeq (cd_403 rfl) rfl rfl (fun w => q1387 ((jlc_eq rfl (jwl_jw _)).mp w)) ?_
        cases e
    · rw [if_neg q1382] at e
      refine ey_zne (cd_403 rfl) rfl rfl q1382 ?_
      exact jk_403_b3166 e K (jup (jup lv 5 (jI q1363.1)) 6 (jI q1372.1)) f0 f1 f2 f3 (jup_o rfl (jup_pi (lv := lv) (j := 4) (v := jI q1363.1) (z := x4) f4))
  · rw [if_neg q1381] at e
    refine ey_neq (cd_403 rfl) rfl rfl rfl q1381 ?_
    cases e
def jd_403_s23 (L : Nat) (xs : Nat → Int32) (x1 : Option Nat) (x2 : Option Nat) (x3 : Option Nat) (x4 : Int) (h : jH) : Option ((Int × jH) ⊕ jH) :=
  (if (jw ((L : Int) - 8)) < (jw x4) then some (.inr h) else ((jsc L xs x4).bind fun v12 => (if (jw (jand v12 63)) = 0 then jd_403_b224 L xs x1 x2 x3 x4 h else (if (jw (jand v12 63)) = 1 then jd_403_b328 L xs x1 x2 x3 x4 h else (if (jw (jand v12 63)) = 2 then jd_403_b460 L xs x1 x2 x3 x4 h else (if (jw (jand v12 63)) = 3 then jd_403_b564 L xs x1 x2 x3 x4 h else (if (jw (jand v12 63)) = 4 then jd_403_b644 L xs x1 x2 x3 x4 h else (if (jw (jand v12 63)) = 5 then jd_403_b748 L xs x1 x2 x3 x4 h else (if (jw (jand v12 63)) = 6 then jd_403_b840 L xs x1 x2 x3 x4 h else (if (jw (jand v12 63)) = 7 then jd_403_b908 L xs x1 x2 x3 x4 h else (if (jw (jand v12 63)) = 8 then jd_403_b964 L xs x1 x2 x3 x4 h else (if (jw (jand v12 63)) = 9 then jd_403_b1064 L xs x1 x2 x3 x4 h else (if (jw (jand v12 63)) = 10 then jd_403_b1132 L xs x1 x2 x3 x4 h else (if (jw (jand v12 63)) = 11 then jd_403_b1157 L xs x1 x2 x3 x4 h else (if (jw (jand v12 63)) = 12 then jd_403_b1170 L xs x1 x2 x3 x4 h else (if (jw (jand v12 63)) = 13 then jd_403_b1238 L xs x1 x2 x3 x4 h else (if (jw (jand v12 63)) = 14 then jd_403_b1294 L xs x1 x2 x3 x4 h else (if (jw (jand v12 63)) = 15 then jd_403_b1307 L xs x1 x2 x3 x4 h else (if (jw (jand v12 63)) = 16 then jd_403_b1363 L xs x1 x2 x3 x4 h else (if (jw (jand v12 63)) = 17 then jd_403_b1407 L xs x1 x2 x3 x4 h else (if (jw (jand v12 63)) = 18 then jd_403_b1463 L xs x1 x2 x3 x4 h else (if (jw (jand v12 63)) = 19 then jd_403_b1531 L xs x1 x2 x3 x4 h else (if (jw (jand v12 63)) = 20 then jd_403_b1611 L xs x1 x2 x3 x4 h else (if (jw (jand v12 63)) = 21 then jd_403_b1703 L xs x1 x2 x3 x4 h else (if (jw (jand v12 63)) = 22 then jd_403_b1807 L xs x1 x2 x3 x4 h else (if (jw (jand v12 63)) = 23 then jd_403_b1918 L xs x1 x2 x3 x4 h else (if (jw (jand v12 63)) = 24 then jd_403_b1986 L xs x1 x2 x3 x4 h else (if (jw (jand v12 63)) = 25 then jd_403_b2078 L xs x1 x2 x3 x4 h else (if (jw (jand v12 63)) = 26 then jd_403_b2158 L xs x1 x2 x3 x4 h else (if (jw (jand v12 63)) = 27 then jd_403_b2202 L xs x1 x2 x3 x4 h else (if (jw (jand v12 63)) = 28 then jd_403_b2277 L xs x1 x2 x3 x4 h else (if (jw (jand v12 63)) = 29 then jd_403_b2290 L xs x1 x2 x3 x4 h else (if (jw (jand v12 63)) = 30 then jd_403_b2334 L xs x1 x2 x3 x4 h else (if (jw (jand v12 63)) = 31 then jd_403_b2414 L xs x1 x2 x3 x4 h else (if (jw (jand v12 63)) = 32 then jd_403_b2494 L xs x1 x2 x3 x4 h else (if (jw (jand v12 63)) = 33 then jd_403_b2569 L xs x1 x2 x3 x4 h else (if (jw (jand v12 63)) = 34 then jd_403_b2637 L xs x1 x2 x3 x4 h else (if (jw (jand v12 63)) = 35 then jd_403_b2729 L xs x1 x2 x3 x4 h else (if (jw (jand v12 63)) = 36 then jd_403_b2801 L xs x1 x2 x3 x4 h else (if (jw (jand v12 63)) = 37 then jd_403_b2857 L xs x1 x2 x3 x4 h else (if (jw (jand v12 63)) = 38 then jd_403_b2905 L xs x1 x2 x3 x4 h else (if (jw (jand v12 63)) = 39 then jd_403_b2953 L xs x1 x2 x3 x4 h else (if (jw (jand v12 63)) = 40 then jd_403_b3021 L xs x1 x2 x3 x4 h else (if (jw (jand v12 63)) = 41 then jd_403_b3113 L xs x1 x2 x3 x4 h else jd_403_b3169 L xs x1 x2 x3 x4 h))))))))))))))))))))))))))))))))))))))))))))
set_option maxRecDepth 100000 in
theorem jk_403_s23 {L : Nat} {xs : Nat → Int32} {x1 : Option Nat} {x2 : Option Nat} {x3 : Option Nat} {x4 : Int} {h : jH} {o : ((Int × jH) ⊕ jH)} {r : mm_R} (e : jd_403_s23 L xs x1 x2 x3 x4 h = some o) (K : jsm (fun s => (∀ lv : jL, lv 0 = some (jR (some 1000000)) → lv 1 = some (jR x1) → lv 2 = some (jR x2) → lv 3 = some (jR x3) → lv 4 = some (jI s.1) → ey (mm_xt L xs) 72 403 23 lv [] s.2 r)) (fun x => (∀ lv : jL, ey (mm_xt L xs) 72 403 3175 lv [] x r)) o) : ∀ lv : jL, lv 0 = some (jR (some 1000000)) → lv 1 = some (jR x1) → lv 2 = some (jR x2) → lv 3 = some (jR x3) → lv 4 = some (jI x4) → ey (mm_xt L xs) 72 403 23 lv [] h r := by
  intro lv f0 f1 f2 f3 f4
  unfold jd_403_s23 at e
  refine ey_iload (cd_403 rfl) f4 ?_
  refine ey_aload_n (cd_403 rfl) f0 ?_
  refine ey_lenc (cd_403 rfl) ?_
  refine ey_bipush (cd_403 rfl) (by decide) ?_
  refine ey_isub (cd_403 rfl) ?_
  by_cases q11 : (jw ((L : Int) - 8)) < (jw x4)
  · rw [if_pos q11] at e
    refine ey_cgt (cd_403 rfl) rfl rfl rfl q11 ?_
    cases e
    exact K lv 
  · rw [if_neg q11] at e
    refine ey_ngt (cd_403 rfl) rfl rfl rfl q11 ?_
    refine ey_aload_n (cd_403 rfl) f0 ?_
    refine ey_iload (cd_403 rfl) f4 ?_
    obtain ⟨v12, e13, e⟩ := jbind e
    refine ey_iasc (cd_403 rfl) e13 ?_
    refine ey_bipush (cd_403 rfl) (by decide) ?_
    refine ey_iand (cd_403 rfl) ?_
    by_cases q14 : (jw (jand v12 63)) = 0
    · rw [if_pos q14] at e
      refine ey_tsw (cd_403 rfl) q14 (by decide) rfl rfl ?_
      exact jk_403_b224 e K lv f0 f1 f2 f3 f4
    · rw [if_neg q14] at e
      by_cases q58 : (jw (jand v12 63)) = 1
      · rw [if_pos q58] at e
        refine ey_tsw (cd_403 rfl) q58 (by decide) rfl rfl ?_
        exact jk_403_b328 e K lv f0 f1 f2 f3 f4
      · rw [if_neg q58] at e
        by_cases q110 : (jw (jand v12 63)) = 2
        · rw [if_pos q110] at e
          refine ey_tsw (cd_403 rfl) q110 (by decide) rfl rfl ?_
          exact jk_403_b460 e K lv f0 f1 f2 f3 f4
        · rw [if_neg q110] at e
          by_cases q148 : (jw (jand v12 63)) = 3
          · rw [if_pos q148] at e
            refine ey_tsw (cd_403 rfl) q148 (by decide) rfl rfl ?_
            exact jk_403_b564 e K lv f0 f1 f2 f3 f4
          · rw [if_neg q148] at e
            by_cases q184 : (jw (jand v12 63)) = 4
            · rw [if_pos q184] at e
              refine ey_tsw (cd_403 rfl) q184 (by decide) rfl rfl ?_
              exact jk_403_b644 e K lv f0 f1 f2 f3 f4
            · rw [if_neg q184] at e
              by_cases q228 : (jw (jand v12 63)) = 5
              · rw [if_pos q228] at e
                refine ey_tsw (cd_403 rfl) q228 (by decide) rfl rfl ?_
                exact jk_403_b748 e K lv f0 f1 f2 f3 f4
              · rw [if_neg q228] at e
                by_cases q268 : (jw (jand v12 63)) = 6
                · rw [if_pos q268] at e
                  refine ey_tsw (cd_403 rfl) q268 (by decide) rfl rfl ?_
                  exact jk_403_b840 e K lv f0 f1 f2 f3 f4
                · rw [if_neg q268] at e
                  by_cases q300 : (jw (jand v12 63)) = 7
                  · rw [if_pos q300] at e
                    refine ey_tsw (cd_403 rfl) q300 (by decide) rfl rfl ?_
                    exact jk_403_b908 e K lv f0 f1 f2 f3 f4
                  · rw [if_neg q300] at e
                    by_cases q328 : (jw (jand v12 63)) = 8
                    · rw [if_pos q328] at e
                      refine ey_tsw (cd_403 rfl) q328 (by decide) rfl rfl ?_
                      exact jk_403_b964 e K lv f0 f1 f2 f3 f4
                    · rw [if_neg q328] at e
                      by_cases q364 : (jw (jand v12 63)) = 9
                      · rw [if_pos q364] at e
                        refine ey_tsw (cd_403 rfl) q364 (by decide) rfl rfl ?_
                        exact jk_403_b1064 e K lv f0 f1 f2 f3 f4
                      · rw [if_neg q364] at e
                        by_cases q396 : (jw (jand v12 63)) = 10
                        · rw [if_pos q396] at e
                          refine ey_tsw (cd_403 rfl) q396 (by decide) rfl rfl ?_
                          exact jk_403_b1132 e K lv f0 f1 f2 f3 f4
                        · rw [if_neg q396] at e
                          by_cases q417 : (jw (jand v12 63)) = 11
                          · rw [if_pos q417] at e
                            refine ey_tsw (cd_403 rfl) q417 (by decide) rfl rfl ?_
                            exact jk_403_b1157 e K lv f0 f1 f2 f3 f4
                          · rw [if_neg q417] at e
                            by_cases q434 : (jw (jand v12 63)) = 12
                            · rw [if_pos q434] at e
                              refine ey_tsw (cd_403 rfl) q434 (by decide) rfl rfl ?_
                              exact jk_403_b1170 e K lv f0 f1 f2 f3 f4
                            · rw [if_neg q434] at e
                              by_cases q466 : (jw (jand v12 63)) = 13
                              · rw [if_pos q466] at e
                                refine ey_tsw (cd_403 rfl) q466 (by decide) rfl rfl ?_
                                exact jk_403_b1238 e K lv f0 f1 f2 f3 f4
                              · rw [if_neg q466] at e
                                by_cases q494 : (jw (jand v12 63)) = 14
                                · rw [if_pos q494] at e
                                  refine ey_tsw (cd_403 rfl) q494 (by decide) rfl rfl ?_
                                  exact jk_403_b1294 e K lv f0 f1 f2 f3 f4
                                · rw [if_neg q494] at e
                                  by_cases q511 : (jw (jand v12 63)) = 15
                                  · rw [if_pos q511] at e
                                    refine ey_tsw (cd_403 rfl) q511 (by decide) rfl rfl ?_
                                    exact jk_403_b1307 e K lv f0 f1 f2 f3 f4
                                  · rw [if_neg q511] at e
                                    by_cases q539 : (jw (jand v12 63)) = 16
                                    · rw [if_pos q539] at e
                                      refine ey_tsw (cd_403 rfl) q539 (by decide) rfl rfl ?_
                                      exact jk_403_b1363 e K lv f0 f1 f2 f3 f4
                                    · rw [if_neg q539] at e
                                      by_cases q563 : (jw (jand v12 63)) = 17
                                      · rw [if_pos q563] at e
                                        refine ey_tsw (cd_403 rfl) q563 (by decide) rfl rfl ?_
                                        exact jk_403_b1407 e K lv f0 f1 f2 f3 f4
                                      · rw [if_neg q563] at e
                                        by_cases q591 : (jw (jand v12 63)) = 18
                                        · rw [if_pos q591] at e
                                          refine ey_tsw (cd_403 rfl) q591 (by decide) rfl rfl ?_
                                          exact jk_403_b1463 e K lv f0 f1 f2 f3 f4
                                        · rw [if_neg q591] at e
                                          by_cases q623 : (jw (jand v12 63)) = 19
                                          · rw [if_pos q623] at e
                                            refine ey_tsw (cd_403 rfl) q623 (by decide) rfl rfl ?_
                                            exact jk_403_b1531 e K lv f0 f1 f2 f3 f4
                                          · rw [if_neg q623] at e
                                            by_cases q659 : (jw (jand v12 63)) = 20
                                            · rw [if_pos q659] at e
                                              refine ey_tsw (cd_403 rfl) q659 (by decide) rfl rfl ?_
                                              exact jk_403_b1611 e K lv f0 f1 f2 f3 f4
                                            · rw [if_neg q659] at e
                                              by_cases q699 : (jw (jand v12 63)) = 21
                                              · rw [if_pos q699] at e
                                                refine ey_tsw (cd_403 rfl) q699 (by decide) rfl rfl ?_
                                                exact jk_403_b1703 e K lv f0 f1 f2 f3 f4
                                              · rw [if_neg q699] at e
                                                by_cases q743 : (jw (jand v12 63)) = 22
                                                · rw [if_pos q743] at e
                                                  refine ey_tsw (cd_403 rfl) q743 (by decide) rfl rfl ?_
                                                  exact jk_403_b1807 e K lv f0 f1 f2 f3 f4
                                                · rw [if_neg q743] at e
                                                  by_cases q789 : (jw (jand v12 63)) = 23
                                                  · rw [if_pos q789] at e
                                                    refine ey_tsw (cd_403 rfl) q789 (by decide) rfl rfl ?_
                                                    exact jk_403_b1918 e K lv f0 f1 f2 f3 f4
                                                  · rw [if_neg q789] at e
                                                    by_cases q821 : (jw (jand v12 63)) = 24
                                                    · rw [if_pos q821] at e
                                                      refine ey_tsw (cd_403 rfl) q821 (by decide) rfl rfl ?_
                                                      exact jk_403_b1986 e K lv f0 f1 f2 f3 f4
                                                    · rw [if_neg q821] at e
                                                      by_cases q861 : (jw (jand v12 63)) = 25
                                                      · rw [if_pos q861] at e
                                                        refine ey_tsw (cd_403 rfl) q861 (by decide) rfl rfl ?_
                                                        exact jk_403_b2078 e K lv f0 f1 f2 f3 f4
                                                      · rw [if_neg q861] at e
                                                        by_cases q897 : (jw (jand v12 63)) = 26
                                                        · rw [if_pos q897] at e
                                                          refine ey_tsw (cd_403 rfl) q897 (by decide) rfl rfl ?_
                                                          exact jk_403_b2158 e K lv f0 f1 f2 f3 f4
                                                        · rw [if_neg q897] at e
                                                          by_cases q921 : (jw (jand v12 63)) = 27
                                                          · rw [if_pos q921] at e
                                                            refine ey_tsw (cd_403 rfl) q921 (by decide) rfl rfl ?_
                                                            exact jk_403_b2202 e K lv f0 f1 f2 f3 f4
                                                          · rw [if_neg q921] at e
                                                            by_cases q955 : (jw (jand v12 63)) = 28
                                                            · rw [if_pos q955] at e
                                                              refine ey_tsw (cd_403 rfl) q955 (by decide) rfl rfl ?_
                                                              exact jk_403_b2277 e K lv f0 f1 f2 f3 f4
                                                            · rw [if_neg q955] at e
                                                              by_cases q972 : (jw (jand v12 63)) = 29
                                                              · rw [if_pos q972] at e
                                                                refine ey_tsw (cd_403 rfl) q972 (by decide) rfl rfl ?_
                                                                exact jk_403_b2290 e K lv f0 f1 f2 f3 f4
                                                              · rw [if_neg q972] at e
                                                                by_cases q996 : (jw (jand v12 63)) = 30
                                                                · rw [if_pos q996] at e
                                                                  refine ey_tsw (cd_403 rfl) q996 (by decide) rfl rfl ?_
                                                                  exact jk_403_b2334 e K lv f0 f1 f2 f3 f4
                                                                · rw [if_neg q996] at e
                                                                  by_cases q1032 : (jw (jand v12 63)) = 31
                                                                  · rw [if_pos q1032] at e
                                                                    refine ey_tsw (cd_403 rfl) q1032 (by decide) rfl rfl ?_
                                                                    exact jk_403_b2414 e K lv f0 f1 f2 f3 f4
                                                                  · rw [if_neg q1032] at e
                                                                    by_cases q1068 : (jw (jand v12 63)) = 32
                                                                    · rw [if_pos q1068] at e
                                                                      refine ey_tsw (cd_403 rfl) q1068 (by decide) rfl rfl ?_
                                                                      exact jk_403_b2494 e K lv f0 f1 f2 f3 f4
                                                                    · rw [if_neg q1068] at e
                                                                      by_cases q1102 : (jw (jand v12 63)) = 33
                                                                      · rw [if_pos q1102] at e
                                                                        refine ey_tsw (cd_403 rfl) q1102 (by decide) rfl rfl ?_
                                                                        exact jk_403_b2569 e K lv f0 f1 f2 f3 f4
                                                                      · rw [if_neg q1102] at e
                                                                        by_cases q1134 : (jw (jand v12 63)) = 34
                                                                        · rw [if_pos q1134] at e
                                                                          refine ey_tsw (cd_403 rfl) q1134 (by decide) rfl rfl ?_
                                                                          exact jk_403_b2637 e K lv f0 f1 f2 f3 f4
                                                                        · rw [if_neg q1134] at e
                                                                          by_cases q1174 : (jw (jand v12 63)) = 35
                                                                          · rw [if_pos q1174] at e
                                                                            refine ey_tsw (cd_403 rfl) q1174 (by decide) rfl rfl ?_
                                                                            exact jk_403_b2729 e K lv f0 f1 f2 f3 f4
                                                                          · rw [if_neg q1174] at e
                                                                            by_cases q1208 : (jw (jand v12 63)) = 36
                                                                            · rw [if_pos q1208] at e
                                                                              refine ey_tsw (cd_403 rfl) q1208 (by decide) rfl rfl ?_
                                                                              exact jk_403_b2801 e K lv f0 f1 f2 f3 f4
                                                                            · rw [if_neg q1208] at e
                                                                              by_cases q1236 : (jw (jand v12 63)) = 37
                                                                              · rw [if_pos q1236] at e
                                                                                refine ey_tsw (cd_403 rfl) q1236 (by decide) rfl rfl ?_
                                                                                exact jk_403_b2857 e K lv f0 f1 f2 f3 f4
                                                                              · rw [if_neg q1236] at e
                                                                                by_cases q1262 : (jw (jand v12 63)) = 38
                                                                                · rw [if_pos q1262] at e
                                                                                  refine ey_tsw (cd_403 rfl) q1262 (by decide) rfl rfl ?_
                                                                                  exact jk_403_b2905 e K lv f0 f1 f2 f3 f4
                                                                                · rw [if_neg q1262] at e
                                                                                  by_cases q1288 : (jw (jand v12 63)) = 39
                                                                                  · rw [if_pos q1288] at e
                                                                                    refine ey_tsw (cd_403 rfl) q1288 (by decide) rfl rfl ?_
                                                                                    exact jk_403_b2953 e K lv f0 f1 f2 f3 f4
                                                                                  · rw [if_neg q1288] at e
                                                                                    by_cases q1320 : (jw (jand v12 63)) = 40
                                                                                    · rw [if_pos q1320] at e
                                                                                      refine ey_tsw (cd_403 rfl) q1320 (by decide) rfl rfl ?_
                                                                                      exact jk_403_b3021 e K lv f0 f1 f2 f3 f4
                                                                                    · rw [if_neg q1320] at e
                                                                                      by_cases q1360 : (jw (jand v12 63)) = 41
                                                                                      · rw [if_pos q1360] at e
                                                                                        refine ey_tsw (cd_403 rfl) q1360 (by decide) rfl rfl ?_
                                                                                        exact jk_403_b3113 e K lv f0 f1 f2 f3 f4
                                                                                      · rw [if_neg q1360] at e
                                                                                        refine ey_tsw_d (cd_403 rfl) (by omega) rfl ?_
                                                                                        exact jk_403_b3169 e K lv f0 f1 f2 f3 f4
def jd_403_l23 (L : Nat) (xs : Nat → Int32) (x1 : Option Nat) (x2 : Option Nat) (x3 : Option Nat) (x4 : Int) (h : jH) : Option jH :=
  jlp (fun s : (Int × jH) => jd_403_s23 L xs x1 x2 x3 s.1 s.2) jfu (x4, h)
theorem jk_403_l23 {L : Nat} {xs : Nat → Int32} {x1 : Option Nat} {x2 : Option Nat} {x3 : Option Nat} {x4 : Int} {h : jH} {x : jH} {r : mm_R} (e : jd_403_l23 L xs x1 x2 x3 x4 h = some x) (K : (∀ lv : jL, ey (mm_xt L xs) 72 403 3175 lv [] x r)) : ∀ lv : jL, lv 0 = some (jR (some 1000000)) → lv 1 = some (jR x1) → lv 2 = some (jR x2) → lv 3 = some (jR x3) → lv 4 = some (jI x4) → ey (mm_xt L xs) 72 403 23 lv [] h r := by
  unfold jd_403_l23 at e
  exact jlp_ok2 (P := fun s => ∀ lv : jL, lv 0 = some (jR (some 1000000)) → lv 1 = some (jR x1) → lv 2 = some (jR x2) → lv 3 = some (jR x3) → lv 4 = some (jI s.1) → ey (mm_xt L xs) 72 403 23 lv [] s.2 r) (Q := fun x => (∀ lv : jL, ey (mm_xt L xs) 72 403 3175 lv [] x r)) (fun s q hq hk => jk_403_s23 hq hk) jfu _ x e K
def jd_403 (L : Nat) (xs : Nat → Int32)  (h : jH) : Option (Int × jH) :=
  ((jnw h 11).bind fun n1 => ((jd_139 n1.1 n1.2).bind fun h3 => ((jnw h3 12).bind fun n5 => ((jd_202 n5.1 n5.2).bind fun h7 => ((jna h7 3 1).bind fun n9 => ((jd_403_l23 L xs (some n1.1) (some n5.1) (some n9.1) 0 n9.2).bind fun x1388 => some (1, x1388)))))))
set_option maxRecDepth 100000 in
theorem ok_403 {L : Nat} {xs : Nat → Int32}  {h : jH} {o : (Int × jH)} (e : jd_403 L xs  h = some o) : mm_Runs (mm_xt L xs) 73 403 ([jR (some 1000000)].map jcv) (jaH h) (.inl (some (jcv (jI o.1)), jaH o.2)) := by
  refine ey_run0 _ mt_403 (jsl_s rfl) ?_
  unfold jd_403 at e
  obtain ⟨n1, e2, e⟩ := jbind e
  refine ey_new (cd_403 rfl) mt_403 rfl rfl jdf_11 e2 ?_
  refine ey_dup (cd_403 rfl) rfl ?_
  obtain ⟨h3, e4, e⟩ := jbind e
  refine ey_ci (s0 := [jR (some n1.1), jR (some n1.1)]) (s1 := [jR (some n1.1)]) (st' := [jR (some n1.1)]) (cd_403 rfl) mt_403 mt_139 rfl (by decide) rfl rfl (jsml_s rfl) rfl (mm_Runs.up (d := 4) (by decide) (ok_139 e4)) ?_
  refine ey_astore_n (cd_403 rfl) mt_403 rfl ?_
  obtain ⟨n5, e6, e⟩ := jbind e
  refine ey_new (cd_403 rfl) mt_403 rfl rfl jdf_12 e6 ?_
  refine ey_dup (cd_403 rfl) rfl ?_
  obtain ⟨h7, e8, e⟩ := jbind e
  refine ey_ci (s0 := [jR (some n5.1), jR (some n5.1)]) (s1 := [jR (some n5.1)]) (st' := [jR (some n5.1)]) (cd_403 rfl) mt_403 mt_202 rfl (by decide) rfl rfl (jsml_s rfl) rfl (mm_Runs.up (d := 1) (by decide) (ok_202 e8)) ?_
  refine ey_astore_n (cd_403 rfl) mt_403 rfl ?_
  refine ey_iconst (cd_403 rfl) ?_
  obtain ⟨n9, e10, e⟩ := jbind e
  refine ey_newarr (cd_403 rfl) (by decide) e10 ?_
  refine ey_astore_n (cd_403 rfl) mt_403 rfl ?_
  refine ey_iconst (cd_403 rfl) ?_
  refine ey_istore (cd_403 rfl) mt_403 rfl ?_
  obtain ⟨x1388, e1389, e⟩ := jbind e
  refine jk_403_l23 e1389 ?_ (jup (jup (jup (jup (jlf (jla 0 [jR (some 1000000)])) 1 (jR (some n1.1))) 2 (jR (some n5.1))) 3 (jR (some n9.1))) 4 (jI 0)) (jup_o rfl (jup_o rfl (jup_o rfl (jup_pr (lv := (jlf (jla 0 [jR (some 1000000)]))) (j := 0) (v := jR (some n1.1)) (z := (some 1000000)) rfl)))) (jup_o rfl (jup_o rfl (jup_pr (lv := (jup (jlf (jla 0 [jR (some 1000000)])) 1 (jR (some n1.1)))) (j := 1) (v := jR (some n5.1)) (z := (some n1.1)) rfl))) (jup_o rfl (jup_pr (lv := (jup (jup (jlf (jla 0 [jR (some 1000000)])) 1 (jR (some n1.1))) 2 (jR (some n5.1)))) (j := 2) (v := jR (some n9.1)) (z := (some n5.1)) rfl)) (jup_pr (lv := (jup (jup (jup (jlf (jla 0 [jR (some 1000000)])) 1 (jR (some n1.1))) 2 (jR (some n5.1))) 3 (jR (some n9.1)))) (j := 3) (v := jI 0) (z := (some n9.1)) rfl) rfl
  intro lv 
  refine ey_iconst (cd_403 rfl) ?_
  cases e
  exact ey_retz (cd_403 rfl) mt_403 rfl (Or.inr rfl)
