theorem cd_233 {pc : Nat} {i : Instr × Nat} (h : mm_lk mm_c233 pc = some i) : mm_cd 233 pc = some i := h
theorem mt_233 : mm_MT 233 = (12, 2, some .int, 1, 1, []) := rfl
set_option maxRecDepth 100000 in
theorem jk_233_s2 {L : Nat} {xs : Nat → Int32} {x0 : Int} {x1 : Int} {h : jH} {o : (Int ⊕ Int)} {r : mm_R} (e : jd_233_s2 x0 x1  = some o) (K : jsm (fun s => (∀ lv : jL, lv 0 = some (jI x0) → lv 1 = some (jI s) → ey (mm_xt L xs) 0 233 2 lv [] h r)) (fun x => (∀ lv : jL, lv 1 = some (jI x) → ey (mm_xt L xs) 0 233 15 lv [] h r)) o) : ∀ lv : jL, lv 0 = some (jI x0) → lv 1 = some (jI x1) → ey (mm_xt L xs) 0 233 2 lv [] h r := by
  intro lv f0 f1
  unfold jd_233_s2 at e
  refine ey_iload_n (cd_233 rfl) f0 ?_
  refine ey_iload_n (cd_233 rfl) f1 ?_
  refine ey_ishr (cd_233 rfl) ?_
  refine ey_iconst (cd_233 rfl) ?_
  by_cases q1 : (jw (jshr x0 x1)) ≤ 1
  · rw [if_pos q1] at e
    refine ey_cle (cd_233 rfl) rfl rfl (show jw 1 = 1 from by decide) q1 ?_
    cases e
    exact K lv f1
  · rw [if_neg q1] at e
    refine ey_nle (cd_233 rfl) rfl rfl (show jw 1 = 1 from by decide) q1 ?_
    refine ey_iinc (cd_233 rfl) mt_233 rfl f1 ?_
    refine ey_goto (cd_233 rfl) rfl ?_
    cases e
    exact K (jup lv 1 (jI (x1 + 1))) (jup_pi (lv := lv) (j := 0) (v := jI (x1 + 1)) (z := x0) f0) rfl
theorem jk_233_l2 {L : Nat} {xs : Nat → Int32} {x0 : Int} {x1 : Int} {h : jH} {x : Int} {r : mm_R} (e : jd_233_l2 x0 x1  = some x) (K : (∀ lv : jL, lv 1 = some (jI x) → ey (mm_xt L xs) 0 233 15 lv [] h r)) : ∀ lv : jL, lv 0 = some (jI x0) → lv 1 = some (jI x1) → ey (mm_xt L xs) 0 233 2 lv [] h r := by
  unfold jd_233_l2 at e
  exact jlp_ok2 (P := fun s => ∀ lv : jL, lv 0 = some (jI x0) → lv 1 = some (jI s) → ey (mm_xt L xs) 0 233 2 lv [] h r) (Q := fun x => (∀ lv : jL, lv 1 = some (jI x) → ey (mm_xt L xs) 0 233 15 lv [] h r)) (fun s q hq hk => jk_233_s2 hq hk) jfu _ x e K
set_option maxRecDepth 100000 in
theorem ok_233 {L : Nat} {xs : Nat → Int32} {p0 : Int} {h : jH} {o : Int} (e : jd_233 p0  = some o) : mm_Runs (mm_xt L xs) 1 233 ([jI p0].map jcv) (jaH h) (.inl (some (jcv (jI o)), jaH h)) := by
  refine ey_run0 _ mt_233 (jsl_s rfl) ?_
  unfold jd_233 at e
  refine ey_iconst (cd_233 rfl) ?_
  refine ey_istore_n (cd_233 rfl) mt_233 rfl ?_
  obtain ⟨x2, e3, e⟩ := jbind e
  refine jk_233_l2 e3 ?_ (jup (jlf (jla 0 [jI p0])) 1 (jI 0)) (jup_pi (lv := (jlf (jla 0 [jI p0]))) (j := 0) (v := jI 0) (z := p0) rfl) rfl
  intro lv g1
  refine ey_iload_n (cd_233 rfl) g1 ?_
  cases e
  exact ey_reti (cd_233 rfl) mt_233 rfl
theorem cd_234 {pc : Nat} {i : Instr × Nat} (h : mm_lk mm_c234 pc = some i) : mm_cd 234 pc = some i := h
theorem mt_234 : mm_MT 234 = (12, 3, none, 1, 0, []) := rfl
set_option maxRecDepth 100000 in
theorem ok_234 {L : Nat} {xs : Nat → Int32} {b : jH} (hb : 152 ≤ b.1) (h6 : b.1 ≤ 1000000) {p0 : Int} {m : jM} {o : jM} (e : jd_234 p0 m = some o) : mm_Runs (mm_xt L xs) 2 234 ([jR (some 76), jI p0].map jcv) (jaH (jhm b m)) (.inl (none, jaH (jhm b o))) := by
  refine ey_run0 _ mt_234 (jsl_s rfl) ?_
  unfold jd_234 at e
  refine ey_iload_n (cd_234 rfl) rfl ?_
  refine ey_iconst (cd_234 rfl) ?_
  refine ey_iadd (cd_234 rfl) ?_
  obtain ⟨v1, e2, e⟩ := jbind e
  refine ey_cs (s0 := [jI (p0 + 1)]) (s1 := []) (st' := [jI v1]) (cd_234 rfl) mt_234 mt_233 rfl (by decide) rfl rfl (jsml_s rfl) rfl (ok_233 e2) ?_
  refine ey_istore_n (cd_234 rfl) mt_234 rfl ?_
  refine ey_aload_n (cd_234 rfl) rfl ?_
  refine ey_iconst (cd_234 rfl) ?_
  refine ey_iload_n (cd_234 rfl) rfl ?_
  obtain ⟨m3, e4, e⟩ := jbind e
  refine ey_cv (s0 := [jI v1, jI 0, jR (some 76)]) (s1 := []) (st' := []) (cd_234 rfl) mt_234 mt_232 rfl rfl rfl (jhm_is hb) rfl (jsml_s rfl) rfl (ok_232 hb h6 e4) ?_
  refine ey_aload_n (cd_234 rfl) rfl ?_
  refine ey_iload_n (cd_234 rfl) (jup_pi (lv := (jlf (jla 0 [jR (some 76), jI p0]))) (j := 1) (v := jI v1) (z := p0) rfl) ?_
  refine ey_iconst (cd_234 rfl) ?_
  refine ey_iadd (cd_234 rfl) ?_
  refine ey_iload_n (cd_234 rfl) rfl ?_
  refine ey_iconst (cd_234 rfl) ?_
  refine ey_iadd (cd_234 rfl) ?_
  obtain ⟨m5, e6, e⟩ := jbind e
  refine ey_cv (s0 := [jI (v1 + 1), jI (p0 + 1), jR (some 76)]) (s1 := []) (st' := []) (cd_234 rfl) mt_234 mt_232 rfl rfl rfl (jhm_is hb) rfl (jsml_s rfl) rfl (ok_232 hb h6 e6) ?_
  cases e
  exact ey_retv (cd_234 rfl) mt_234 rfl
theorem cd_235 {pc : Nat} {i : Instr × Nat} (h : mm_lk mm_c235 pc = some i) : mm_cd 235 pc = some i := h
theorem mt_235 : mm_MT 235 = (12, 1, some .int, 1, 1, []) := rfl
set_option maxRecDepth 100000 in
theorem ok_235 {L : Nat} {xs : Nat → Int32} {p0 : Int} {h : jH} {o : Int} (e : jd_235 p0  = some o) : mm_Runs (mm_xt L xs) 2 235 ([jI p0].map jcv) (jaH h) (.inl (some (jcv (jI o)), jaH h)) := by
  refine ey_run0 _ mt_235 (jsl_s rfl) ?_
  unfold jd_235 at e
  refine ey_iconst (cd_235 rfl) ?_
  refine ey_iload_n (cd_235 rfl) rfl ?_
  refine ey_iconst (cd_235 rfl) ?_
  refine ey_iadd (cd_235 rfl) ?_
  obtain ⟨v1, e2, e⟩ := jbind e
  refine ey_cs (s0 := [jI (p0 + 1), jI 2]) (s1 := [jI 2]) (st' := [jI v1, jI 2]) (cd_235 rfl) mt_235 mt_233 rfl (by decide) rfl rfl (jsml_s rfl) rfl (ok_233 e2) ?_
  refine ey_imul (cd_235 rfl) ?_
  refine ey_iconst (cd_235 rfl) ?_
  refine ey_iadd (cd_235 rfl) ?_
  cases e
  exact ey_reti (cd_235 rfl) mt_235 rfl
theorem cd_236 {pc : Nat} {i : Instr × Nat} (h : mm_lk mm_c236 pc = some i) : mm_cd 236 pc = some i := h
theorem mt_236 : mm_MT 236 = (12, 1, some .int, 1, 1, []) := rfl
set_option maxRecDepth 100000 in
theorem ok_236 {L : Nat} {xs : Nat → Int32} {p0 : Int} {h : jH} : mm_Runs (mm_xt L xs) 1 236 ([jI p0].map jcv) (jaH h) (.inl (some (jcv (jI (jd_236 p0))), jaH h)) := by
  refine ey_run0 _ mt_236 (jsl_s rfl) ?_
  refine ey_iload_n (cd_236 rfl) rfl ?_
  by_cases q1 : (jw p0) ≤ 0
  · refine ey_zle (cd_236 rfl) rfl rfl q1 ?_
    refine ey_bipush (cd_236 rfl) (by decide) ?_
    refine ey_iload_n (cd_236 rfl) rfl ?_
    refine ey_imul (cd_236 rfl) ?_
    rw [show (jd_236 p0) = ((-2) * p0) from by unfold jd_236; exact (if_pos q1)]
    exact ey_reti (cd_236 rfl) mt_236 rfl
  · refine ey_yle (cd_236 rfl) rfl rfl q1 ?_
    refine ey_iconst (cd_236 rfl) ?_
    refine ey_iload_n (cd_236 rfl) rfl ?_
    refine ey_imul (cd_236 rfl) ?_
    refine ey_iconst (cd_236 rfl) ?_
    refine ey_isub (cd_236 rfl) ?_
    refine ey_goto (cd_236 rfl) rfl ?_
    rw [show (jd_236 p0) = ((2 * p0) - 1) from by unfold jd_236; exact (if_neg q1)]
    exact ey_reti (cd_236 rfl) mt_236 rfl
theorem cd_237 {pc : Nat} {i : Instr × Nat} (h : mm_lk mm_c237 pc = some i) : mm_cd 237 pc = some i := h
theorem mt_237 : mm_MT 237 = (12, 5, some .int, 4, 0, []) := rfl
set_option maxRecDepth 100000 in
theorem ok_237 {L : Nat} {xs : Nat → Int32} {b : jH} (hb : 152 ≤ b.1) (h6 : b.1 ≤ 1000000) {p0 : Int} {p1 : Int} {p2 : Int} {p3 : Int} {m : jM}  : mm_Runs (mm_xt L xs) 2 237 ([jR (some 76), jI p0, jI p1, jI p2, jI p3].map jcv) (jaH (jhm b m)) (.inl (some (jcv (jI (jd_237 p0 p1 p2 p3 m))), jaH (jhm b m))) := by
  refine ey_run0 _ mt_237 (jsl_s rfl) ?_
  refine ey_sipush (cd_237 rfl) (by decide) ?_
  refine ey_iload_n (cd_237 rfl) rfl ?_
  refine ey_imul (cd_237 rfl) ?_
  refine ey_iload_n (cd_237 rfl) rfl ?_
  refine ey_cs (s0 := [jI p1, jI (864 * p0)]) (s1 := [jI (864 * p0)]) (st' := [jI (jd_207 p1), jI (864 * p0)]) (cd_237 rfl) mt_237 mt_207 rfl (by decide) rfl rfl (jsml_s rfl) rfl (ok_207 ) ?_
  refine ey_iadd (cd_237 rfl) ?_
  refine ey_iload (cd_237 rfl) rfl ?_
  refine ey_aload_n (cd_237 rfl) rfl ?_
  refine ey_getf_i (z := (m 76 33)) (cd_237 rfl) mt_237 rfl rfl rfl (jhm_gi hb 33) ?_
  refine ey_iload_n (cd_237 rfl) rfl ?_
  refine ey_cs (s0 := [jI p1, jI (m 76 33), jI p3, jI ((864 * p0) + (jd_207 p1))]) (s1 := [jI p3, jI ((864 * p0) + (jd_207 p1))]) (st' := [jI (jd_206 (m 76 33) p1), jI p3, jI ((864 * p0) + (jd_207 p1))]) (cd_237 rfl) mt_237 mt_206 rfl (by decide) rfl rfl (jsml_s rfl) rfl (ok_206 ) ?_
  refine ey_imul (cd_237 rfl) ?_
  refine ey_iadd (cd_237 rfl) ?_
  refine ey_iload_n (cd_237 rfl) rfl ?_
  refine ey_iadd (cd_237 rfl) ?_
  rw [show (jd_237 p0 p1 p2 p3 m) = ((((864 * p0) + (jd_207 p1)) + (p3 * (jd_206 (m 76 33) p1))) + p2) from rfl]
  exact ey_reti (cd_237 rfl) mt_237 rfl
theorem cd_238 {pc : Nat} {i : Instr × Nat} (h : mm_lk mm_c238 pc = some i) : mm_cd 238 pc = some i := h
theorem mt_238 : mm_MT 238 = (12, 1, some .int, 0, 0, []) := rfl
set_option maxRecDepth 100000 in
theorem ok_238 {L : Nat} {xs : Nat → Int32} {b : jH} (hb : 152 ≤ b.1) (h6 : b.1 ≤ 1000000)  {m : jM}  : mm_Runs (mm_xt L xs) 1 238 ([jR (some 76)].map jcv) (jaH (jhm b m)) (.inl (some (jcv (jI (jd_238  m))), jaH (jhm b m))) := by
  refine ey_run0 _ mt_238 (jsl_s rfl) ?_
  refine ey_aload_n (cd_238 rfl) rfl ?_
  refine ey_getf_i (z := (m 76 33)) (cd_238 rfl) mt_238 rfl rfl rfl (jhm_gi hb 33) ?_
  refine ey_bipush (cd_238 rfl) (by decide) ?_
  refine ey_idiv (cd_238 rfl) (by decide) ?_
  refine ey_aload_n (cd_238 rfl) rfl ?_
  refine ey_getf_i (z := (m 76 34)) (cd_238 rfl) mt_238 rfl rfl rfl (jhm_gi hb 34) ?_
  refine ey_bipush (cd_238 rfl) (by decide) ?_
  refine ey_idiv (cd_238 rfl) (by decide) ?_
  refine ey_imul (cd_238 rfl) ?_
  rw [show (jd_238  m) = ((jdiv (m 76 33) 8) * (jdiv (m 76 34) 8)) from rfl]
  exact ey_reti (cd_238 rfl) mt_238 rfl
theorem cd_239 {pc : Nat} {i : Instr × Nat} (h : mm_lk mm_c239 pc = some i) : mm_cd 239 pc = some i := h
theorem mt_239 : mm_MT 239 = (12, 5, some .int, 2, 0, []) := rfl
set_option maxRecDepth 100000 in
theorem jk_239_s7 {L : Nat} {xs : Nat → Int32} {b : jH} (hb : 152 ≤ b.1) (h6 : b.1 ≤ 1000000) {x3 : Int} {x4 : Int} {m : jM} {o : ((Int × Int) ⊕ (Int ⊕ Unit))} {r : mm_R} (e : jd_239_s7 x3 x4 m = some o) (K : jsm (fun s => (∀ lv : jL, lv 0 = some (jR (some 76)) → lv 3 = some (jI s.1) → lv 4 = some (jI s.2) → ey (mm_xt L xs) 0 239 7 lv [] (jhm b m) r)) (fun x => (jsm (fun y => (∀ lv : jL, lv 4 = some (jI y) → ey (mm_xt L xs) 0 239 34 lv [] (jhm b m) r)) (fun z => (∀ lv : jL, ey (mm_xt L xs) 0 239 43 lv [] (jhm b m) r)) x)) o) : ∀ lv : jL, lv 0 = some (jR (some 76)) → lv 3 = some (jI x3) → lv 4 = some (jI x4) → ey (mm_xt L xs) 0 239 7 lv [] (jhm b m) r := by
  intro lv f0 f3 f4
  unfold jd_239_s7 at e
  refine ey_iload (cd_239 rfl) f4 ?_
  refine ey_aload_n (cd_239 rfl) f0 ?_
  refine ey_getf_i (z := (m 76 36)) (cd_239 rfl) mt_239 rfl rfl rfl (jhm_gi hb 36) ?_
  by_cases q1 : (jw x4) < (jw (m 76 36))
  · rw [if_pos q1] at e
    refine ey_clt (cd_239 rfl) rfl rfl rfl q1 ?_
    cases e
    exact K lv 
  · rw [if_neg q1] at e
    refine ey_nlt (cd_239 rfl) rfl rfl rfl q1 ?_
    refine ey_aload_n (cd_239 rfl) f0 ?_
    refine ey_getf_r (cd_239 rfl) mt_239 rfl rfl rfl (jhm_gr (q := 102) hb rfl) ?_
    refine ey_iload (cd_239 rfl) f4 ?_
    obtain ⟨v2, e3, e⟩ := jbind e
    refine ey_iald (cd_239 rfl) (jhm_ai hb h6 (by decide) rfl e3) ?_
    refine ey_iconst (cd_239 rfl) ?_
    have K5 : ∀ lv : jL, lv 0 = some (jR (some 76)) → lv 3 = some (jI (if (jw v2) = 2 then x3 else (x3 + (-1)))) → lv 4 = some (jI x4) → ey (mm_xt L xs) 0 239 30 lv [] (jhm b m) r := by
      intro lv g0 g3 g4
      refine ey_iload_n (cd_239 rfl) g3 ?_
      by_cases q4 : (jw (if (jw v2) = 2 then x3 else (x3 + (-1)))) = 0
      · rw [if_pos q4] at e
        refine ey_yne (cd_239 rfl) rfl rfl (fun w => w q4) ?_
        cases e
        exact K lv g4
      · rw [if_neg q4] at e
        refine ey_zne (cd_239 rfl) rfl rfl q4 ?_
        refine ey_iinc (cd_239 rfl) mt_239 rfl g4 ?_
        refine ey_goto (cd_239 rfl) rfl ?_
        cases e
        exact K (jup lv 4 (jI (x4 + (-1)))) g0 (jup_pi (lv := lv) (j := 3) (v := jI (x4 + (-1))) (z := (if (jw v2) = 2 then x3 else (x3 + (-1)))) g3) rfl
    by_cases q6 : (jw v2) = 2
    · refine ey_ceq (cd_239 rfl) rfl rfl (show jw 2 = 2 from by decide) q6 ?_
      exact K5 lv f0 (Eq.trans (show lv 3 = some (jI x3) from f3) (congrArg (fun z => some (jI z)) (Eq.symm (if_pos q6)))) f4
    · refine ey_neq (cd_239 rfl) rfl rfl (show jw 2 = 2 from by decide) q6 ?_
      refine ey_iinc (cd_239 rfl) mt_239 rfl f3 ?_
      exact K5 (jup lv 3 (jI (x3 + (-1)))) f0 (Eq.trans (show (jup lv 3 (jI (x3 + (-1)))) 3 = some (jI (x3 + (-1))) from rfl) (congrArg (fun z => some (jI z)) (Eq.symm (if_neg q6)))) f4
theorem jk_239_l7 {L : Nat} {xs : Nat → Int32} {b : jH} (hb : 152 ≤ b.1) (h6 : b.1 ≤ 1000000) {x3 : Int} {x4 : Int} {m : jM} {x : (Int ⊕ Unit)} {r : mm_R} (e : jd_239_l7 x3 x4 m = some x) (K : (jsm (fun y => (∀ lv : jL, lv 4 = some (jI y) → ey (mm_xt L xs) 0 239 34 lv [] (jhm b m) r)) (fun z => (∀ lv : jL, ey (mm_xt L xs) 0 239 43 lv [] (jhm b m) r)) x)) : ∀ lv : jL, lv 0 = some (jR (some 76)) → lv 3 = some (jI x3) → lv 4 = some (jI x4) → ey (mm_xt L xs) 0 239 7 lv [] (jhm b m) r := by
  unfold jd_239_l7 at e
  exact jlp_ok2 (P := fun s => ∀ lv : jL, lv 0 = some (jR (some 76)) → lv 3 = some (jI s.1) → lv 4 = some (jI s.2) → ey (mm_xt L xs) 0 239 7 lv [] (jhm b m) r) (Q := fun x => (jsm (fun y => (∀ lv : jL, lv 4 = some (jI y) → ey (mm_xt L xs) 0 239 34 lv [] (jhm b m) r)) (fun z => (∀ lv : jL, ey (mm_xt L xs) 0 239 43 lv [] (jhm b m) r)) x)) (fun s q hq hk => jk_239_s7 hb h6 hq hk) jfu _ x e K
set_option maxRecDepth 100000 in
theorem ok_239 {L : Nat} {xs : Nat → Int32} {b : jH} (hb : 152 ≤ b.1) (h6 : b.1 ≤ 1000000) {p0 : Int} {p1 : Int} {m : jM} {o : Int} (e : jd_239 p0 p1 m = some o) : mm_Runs (mm_xt L xs) 1 239 ([jR (some 76), jI p0, jI p1].map jcv) (jaH (jhm b m)) (.inl (some (jcv (jI o)), jaH (jhm b m))) := by
  refine ey_run0 _ mt_239 (jsl_s rfl) ?_
  unfold jd_239 at e
  refine ey_iload_n (cd_239 rfl) rfl ?_
  refine ey_istore_n (cd_239 rfl) mt_239 rfl ?_
  refine ey_iload_n (cd_239 rfl) rfl ?_
  refine ey_iconst (cd_239 rfl) ?_
  refine ey_isub (cd_239 rfl) ?_
  refine ey_istore (cd_239 rfl) mt_239 rfl ?_
  obtain ⟨x7, e8, e⟩ := jbind e
  refine jk_239_l7 hb h6 e8 ?_ (jup (jup (jlf (jla 0 [jR (some 76), jI p0, jI p1])) 3 (jI p1)) 4 (jI (p0 - 1))) rfl (jup_pi (lv := (jup (jlf (jla 0 [jR (some 76), jI p0, jI p1])) 3 (jI p1))) (j := 3) (v := jI (p0 - 1)) (z := p1) rfl) rfl
  cases x7 with
  | inl y9 =>
    replace e : (some y9 : Option Int) = some o := e
    intro lv g4
    refine ey_iload (cd_239 rfl) g4 ?_
    cases e
    exact ey_reti (cd_239 rfl) mt_239 rfl
  | inr y10 =>
    replace e : (some (-1) : Option Int) = some o := e
    intro lv 
    refine ey_iconst (cd_239 rfl) ?_
    cases e
    exact ey_reti (cd_239 rfl) mt_239 rfl
theorem cd_240 {pc : Nat} {i : Instr × Nat} (h : mm_lk mm_c240 pc = some i) : mm_cd 240 pc = some i := h
theorem mt_240 : mm_MT 240 = (12, 2, some .int, 1, 0, []) := rfl
set_option maxRecDepth 100000 in
theorem ok_240 {L : Nat} {xs : Nat → Int32} {b : jH} (hb : 152 ≤ b.1) (h6 : b.1 ≤ 1000000) {p0 : Int} {m : jM} {o : Int} (e : jd_240 p0 m = some o) : mm_Runs (mm_xt L xs) 2 240 ([jR (some 76), jI p0].map jcv) (jaH (jhm b m)) (.inl (some (jcv (jI o)), jaH (jhm b m))) := by
  refine ey_run0 _ mt_240 (jsl_s rfl) ?_
  unfold jd_240 at e
  refine ey_aload_n (cd_240 rfl) rfl ?_
  refine ey_iload_n (cd_240 rfl) rfl ?_
  refine ey_aload_n (cd_240 rfl) rfl ?_
  refine ey_getf_r (cd_240 rfl) mt_240 rfl rfl rfl (jhm_gr (q := 102) hb rfl) ?_
  refine ey_iload_n (cd_240 rfl) rfl ?_
  obtain ⟨v1, e2, e⟩ := jbind e
  refine ey_iald (cd_240 rfl) (jhm_ai hb h6 (by decide) rfl e2) ?_
  refine ey_iconst (cd_240 rfl) ?_
  have K5 : ∀ lv : jL, ey (mm_xt L xs) 1 240 17 lv [jI (if (jw v1) = 2 then 2 else 1), jI p0, jR (some 76)] (jhm b m) (.inl (some (jcv (jI o)), jaH (jhm b m))) := by
    intro lv 
    obtain ⟨v3, e4, e⟩ := jbind e
    refine ey_cv (s0 := [jI (if (jw v1) = 2 then 2 else 1), jI p0, jR (some 76)]) (s1 := []) (st' := [jI v3]) (cd_240 rfl) mt_240 mt_239 rfl rfl rfl (jhm_is hb) rfl (jsml_s rfl) rfl (ok_239 hb h6 e4) ?_
    cases e
    exact ey_reti (cd_240 rfl) mt_240 rfl
  by_cases q6 : (jw v1) = 2
  · refine ey_nne (cd_240 rfl) rfl rfl (show jw 2 = 2 from by decide) (fun w => w q6) ?_
    refine ey_iconst (cd_240 rfl) ?_
    refine ey_goto (cd_240 rfl) rfl ?_
    exact ey_rs (s0 := [jI 2, jI p0, jR (some 76)]) (s1 := [jI (if (jw v1) = 2 then 2 else 1), jI p0, jR (some 76)]) (by rw [show ((if (jw v1) = 2 then 2 else 1) : Int) = 2 from (if_pos q6)]) (K5 (jlf (jla 0 [jR (some 76), jI p0])) )
  · refine ey_cne (cd_240 rfl) rfl rfl (show jw 2 = 2 from by decide) q6 ?_
    refine ey_iconst (cd_240 rfl) ?_
    exact ey_rs (s0 := [jI 1, jI p0, jR (some 76)]) (s1 := [jI (if (jw v1) = 2 then 2 else 1), jI p0, jR (some 76)]) (by rw [show ((if (jw v1) = 2 then 2 else 1) : Int) = 1 from (if_neg q6)]) (K5 (jlf (jla 0 [jR (some 76), jI p0])) )
theorem cd_241 {pc : Nat} {i : Instr × Nat} (h : mm_lk mm_c241 pc = some i) : mm_cd 241 pc = some i := h
theorem mt_241 : mm_MT 241 = (12, 7, none, 5, 0, []) := rfl
set_option maxRecDepth 100000 in
theorem jk_241_b44 {L : Nat} {xs : Nat → Int32} {b : jH} (hb : 152 ≤ b.1) (h6 : b.1 ≤ 1000000) {x6 : Int} {y0 : Int} {y1 : Int} {m : jM} {o : jM} (e : jd_241_b44 x6 y0 y1 m = some o) : ∀ lv : jL, lv 0 = some (jR (some 76)) → lv 6 = some (jI x6) → ey (mm_xt L xs) 2 241 44 lv [jI y0, jI y1, jR (some 109)] (jhm b m) (.inl (none, jaH (jhm b o))) := by
  intro lv f0 f6
  unfold jd_241_b44 at e
  obtain ⟨m2, e3, e⟩ := jbind e
  refine ey_iast (cd_241 rfl) (jhm_ta hb (by decide) rfl e3) ?_
  refine ey_aload_n (cd_241 rfl) f0 ?_
  refine ey_getf_r (cd_241 rfl) mt_241 rfl rfl rfl (jhm_gr (q := 110) hb rfl) ?_
  refine ey_iload (cd_241 rfl) f6 ?_
  refine ey_iconst (cd_241 rfl) ?_
  obtain ⟨m4, e5, e⟩ := jbind e
  refine ey_zast (cd_241 rfl) (jhm_ta hb (by decide) rfl e5) ?_
  cases e
  exact ey_retv (cd_241 rfl) mt_241 rfl
set_option maxRecDepth 100000 in
theorem ok_241 {L : Nat} {xs : Nat → Int32} {b : jH} (hb : 152 ≤ b.1) (h6 : b.1 ≤ 1000000) {p0 : Int} {p1 : Int} {p2 : Int} {p3 : Int} {p4 : Int} {m : jM} {o : jM} (e : jd_241 p0 p1 p2 p3 p4 m = some o) : mm_Runs (mm_xt L xs) 3 241 ([jR (some 76), jI p0, jI p1, jI p2, jI p3, jI p4].map jcv) (jaH (jhm b m)) (.inl (none, jaH (jhm b o))) := by
  refine ey_run0 _ mt_241 (jsl_s rfl) ?_
  unfold jd_241 at e
  refine ey_aload_n (cd_241 rfl) rfl ?_
  refine ey_iload_n (cd_241 rfl) rfl ?_
  refine ey_iload_n (cd_241 rfl) rfl ?_
  refine ey_iload_n (cd_241 rfl) rfl ?_
  refine ey_iload (cd_241 rfl) rfl ?_
  refine ey_cv (s0 := [jI p3, jI p2, jI p1, jI p0, jR (some 76)]) (s1 := []) (st' := [jI (jd_237 p0 p1 p2 p3 m)]) (cd_241 rfl) mt_241 mt_237 rfl rfl rfl (jhm_is hb) rfl (jsml_s rfl) rfl (ok_237 hb h6 ) ?_
  refine ey_istore (cd_241 rfl) mt_241 rfl ?_
  refine ey_aload_n (cd_241 rfl) rfl ?_
  refine ey_getf_r (cd_241 rfl) mt_241 rfl rfl rfl (jhm_gr (q := 109) hb rfl) ?_
  refine ey_iload (cd_241 rfl) rfl ?_
  refine ey_iload (cd_241 rfl) (jup_pi (lv := (jlf (jla 0 [jR (some 76), jI p0, jI p1, jI p2, jI p3, jI p4]))) (j := 5) (v := jI (jd_237 p0 p1 p2 p3 m)) (z := p4) rfl) ?_
  refine ey_iconst (cd_241 rfl) ?_
  by_cases q1 : (jw p4) = (-1)
  · rw [if_pos q1] at e
    refine ey_nne (cd_241 rfl) rfl rfl (show jw (-1) = (-1) from by decide) (fun w => w q1) ?_
    refine ey_sipush (cd_241 rfl) (by decide) ?_
    refine ey_goto (cd_241 rfl) rfl ?_
    exact jk_241_b44 hb h6 e (jup (jlf (jla 0 [jR (some 76), jI p0, jI p1, jI p2, jI p3, jI p4])) 6 (jI (jd_237 p0 p1 p2 p3 m))) rfl rfl
  · rw [if_neg q1] at e
    refine ey_cne (cd_241 rfl) rfl rfl (show jw (-1) = (-1) from by decide) q1 ?_
    refine ey_aload_n (cd_241 rfl) rfl ?_
    refine ey_getf_r (cd_241 rfl) mt_241 rfl rfl rfl (jhm_gr (q := 109) hb rfl) ?_
    refine ey_aload_n (cd_241 rfl) rfl ?_
    refine ey_iload (cd_241 rfl) (jup_pi (lv := (jlf (jla 0 [jR (some 76), jI p0, jI p1, jI p2, jI p3, jI p4]))) (j := 5) (v := jI (jd_237 p0 p1 p2 p3 m)) (z := p4) rfl) ?_
    refine ey_iload_n (cd_241 rfl) rfl ?_
    refine ey_iload_n (cd_241 rfl) rfl ?_
    refine ey_iload (cd_241 rfl) rfl ?_
    refine ey_cv (s0 := [jI p3, jI p2, jI p1, jI p4, jR (some 76), jR (some 109), jI (jd_237 p0 p1 p2 p3 m), jR (some 109)]) (s1 := [jR (some 109), jI (jd_237 p0 p1 p2 p3 m), jR (some 109)]) (st' := [jI (jd_237 p4 p1 p2 p3 m), jR (some 109), jI (jd_237 p0 p1 p2 p3 m), jR (some 109)]) (cd_241 rfl) mt_241 mt_237 rfl rfl rfl (jhm_is hb) rfl (jsml_s rfl) rfl (ok_237 hb h6 ) ?_
    obtain ⟨v6, e7, e⟩ := jbind e
    refine ey_iald (cd_241 rfl) (jhm_ai hb h6 (by decide) rfl e7) ?_
    exact jk_241_b44 hb h6 e (jup (jlf (jla 0 [jR (some 76), jI p0, jI p1, jI p2, jI p3, jI p4])) 6 (jI (jd_237 p0 p1 p2 p3 m))) rfl rfl
theorem cd_242 {pc : Nat} {i : Instr × Nat} (h : mm_lk mm_c242 pc = some i) : mm_cd 242 pc = some i := h
theorem mt_242 : mm_MT 242 = (12, 3, none, 1, 0, []) := rfl
set_option maxRecDepth 100000 in
theorem jk_242_s2 {L : Nat} {xs : Nat → Int32} {b : jH} (hb : 152 ≤ b.1) (h6 : b.1 ≤ 1000000) {x1 : Int} {x2 : Int} {m : jM} {o : ((Int × jM) ⊕ jM)} {r : mm_R} (e : jd_242_s2 x1 x2 m = some o) (K : jsm (fun s => (∀ lv : jL, lv 0 = some (jR (some 76)) → lv 1 = some (jI x1) → lv 2 = some (jI s.1) → ey (mm_xt L xs) 0 242 2 lv [] (jhm b s.2) r)) (fun x => (∀ lv : jL, ey (mm_xt L xs) 0 242 28 lv [] (jhm b x) r)) o) : ∀ lv : jL, lv 0 = some (jR (some 76)) → lv 1 = some (jI x1) → lv 2 = some (jI x2) → ey (mm_xt L xs) 0 242 2 lv [] (jhm b m) r := by
  intro lv f0 f1 f2
  unfold jd_242_s2 at e
  refine ey_iload_n (cd_242 rfl) f2 ?_
  refine ey_sipush (cd_242 rfl) (by decide) ?_
  by_cases q1 : 864 ≤ (jw x2)
  · rw [if_pos q1] at e
    refine ey_cge (cd_242 rfl) rfl rfl (show jw 864 = 864 from by decide) q1 ?_
    cases e
    exact K lv 
  · rw [if_neg q1] at e
    refine ey_nge (cd_242 rfl) rfl rfl (show jw 864 = 864 from by decide) q1 ?_
    refine ey_aload_n (cd_242 rfl) f0 ?_
    refine ey_getf_r (cd_242 rfl) mt_242 rfl rfl rfl (jhm_gr (q := 110) hb rfl) ?_
    refine ey_sipush (cd_242 rfl) (by decide) ?_
    refine ey_iload_n (cd_242 rfl) f1 ?_
    refine ey_imul (cd_242 rfl) ?_
    refine ey_iload_n (cd_242 rfl) f2 ?_
    refine ey_iadd (cd_242 rfl) ?_
    refine ey_iconst (cd_242 rfl) ?_
    obtain ⟨m2, e3, e⟩ := jbind e
    refine ey_zast (cd_242 rfl) (jhm_ta hb (by decide) rfl e3) ?_
    refine ey_iinc (cd_242 rfl) mt_242 rfl f2 ?_
    refine ey_goto (cd_242 rfl) rfl ?_
    cases e
    exact K (jup lv 2 (jI (x2 + 1))) f0 (jup_pi (lv := lv) (j := 1) (v := jI (x2 + 1)) (z := x1) f1) rfl
theorem jk_242_l2 {L : Nat} {xs : Nat → Int32} {b : jH} (hb : 152 ≤ b.1) (h6 : b.1 ≤ 1000000) {x1 : Int} {x2 : Int} {m : jM} {x : jM} {r : mm_R} (e : jd_242_l2 x1 x2 m = some x) (K : (∀ lv : jL, ey (mm_xt L xs) 0 242 28 lv [] (jhm b x) r)) : ∀ lv : jL, lv 0 = some (jR (some 76)) → lv 1 = some (jI x1) → lv 2 = some (jI x2) → ey (mm_xt L xs) 0 242 2 lv [] (jhm b m) r := by
  unfold jd_242_l2 at e
  exact jlp_ok2 (P := fun s => ∀ lv : jL, lv 0 = some (jR (some 76)) → lv 1 = some (jI x1) → lv 2 = some (jI s.1) → ey (mm_xt L xs) 0 242 2 lv [] (jhm b s.2) r) (Q := fun x => (∀ lv : jL, ey (mm_xt L xs) 0 242 28 lv [] (jhm b x) r)) (fun s q hq hk => jk_242_s2 hb h6 hq hk) jfu _ x e K
set_option maxRecDepth 100000 in
theorem ok_242 {L : Nat} {xs : Nat → Int32} {b : jH} (hb : 152 ≤ b.1) (h6 : b.1 ≤ 1000000) {p0 : Int} {m : jM} {o : jM} (e : jd_242 p0 m = some o) : mm_Runs (mm_xt L xs) 1 242 ([jR (some 76), jI p0].map jcv) (jaH (jhm b m)) (.inl (none, jaH (jhm b o))) := by
  refine ey_run0 _ mt_242 (jsl_s rfl) ?_
  unfold jd_242 at e
  refine ey_iconst (cd_242 rfl) ?_
  refine ey_istore_n (cd_242 rfl) mt_242 rfl ?_
  obtain ⟨x4, e5, e⟩ := jbind e
  refine jk_242_l2 hb h6 e5 ?_ (jup (jlf (jla 0 [jR (some 76), jI p0])) 2 (jI 0)) rfl (jup_pi (lv := (jlf (jla 0 [jR (some 76), jI p0]))) (j := 1) (v := jI 0) (z := p0) rfl) rfl
  intro lv 
  cases e
  exact ey_retv (cd_242 rfl) mt_242 rfl
theorem cd_243 {pc : Nat} {i : Instr × Nat} (h : mm_lk mm_c243 pc = some i) : mm_cd 243 pc = some i := h
theorem mt_243 : mm_MT 243 = (12, 1, some .int, 1, 1, []) := rfl
set_option maxRecDepth 100000 in
theorem ok_243 {L : Nat} {xs : Nat → Int32} {p0 : Int} {h : jH} : mm_Runs (mm_xt L xs) 1 243 ([jI p0].map jcv) (jaH h) (.inl (some (jcv (jI (jd_243 p0))), jaH h)) := by
  refine ey_run0 _ mt_243 (jsl_s rfl) ?_
  refine ey_iload_n (cd_243 rfl) rfl ?_
  by_cases q1 : (jw p0) = 0
  · refine ey_yne (cd_243 rfl) rfl rfl (fun w => w q1) ?_
    refine ey_bipush (cd_243 rfl) (by decide) ?_
    refine ey_goto (cd_243 rfl) rfl ?_
    rw [show (jd_243 p0) = 8 from by unfold jd_243; exact (if_pos q1)]
    exact ey_reti (cd_243 rfl) mt_243 rfl
  · refine ey_zne (cd_243 rfl) rfl rfl q1 ?_
    refine ey_iconst (cd_243 rfl) ?_
    rw [show (jd_243 p0) = 4 from by unfold jd_243; exact (if_neg q1)]
    exact ey_reti (cd_243 rfl) mt_243 rfl
theorem cd_244 {pc : Nat} {i : Instr × Nat} (h : mm_lk mm_c244 pc = some i) : mm_cd 244 pc = some i := h
theorem mt_244 : mm_MT 244 = (12, 1, some .int, 1, 1, []) := rfl
set_option maxRecDepth 100000 in
theorem ok_244 {L : Nat} {xs : Nat → Int32} {p0 : Int} {h : jH} : mm_Runs (mm_xt L xs) 1 244 ([jI p0].map jcv) (jaH h) (.inl (some (jcv (jI (jd_244 p0))), jaH h)) := by
  refine ey_run0 _ mt_244 (jsl_s rfl) ?_
  refine ey_iload_n (cd_244 rfl) rfl ?_
  by_cases q1 : (jw p0) = 0
  · refine ey_yne (cd_244 rfl) rfl rfl (fun w => w q1) ?_
    refine ey_iconst (cd_244 rfl) ?_
    refine ey_goto (cd_244 rfl) rfl ?_
    rw [show (jd_244 p0) = 0 from by unfold jd_244; exact (if_pos q1)]
    exact ey_reti (cd_244 rfl) mt_244 rfl
  · refine ey_zne (cd_244 rfl) rfl rfl q1 ?_
    refine ey_iload_n (cd_244 rfl) rfl ?_
    refine ey_iconst (cd_244 rfl) ?_
    by_cases q2 : (jw p0) = 1
    · refine ey_nne (cd_244 rfl) rfl rfl (show jw 1 = 1 from by decide) (fun w => w q2) ?_
      refine ey_bipush (cd_244 rfl) (by decide) ?_
      refine ey_goto (cd_244 rfl) rfl ?_
      rw [show (jd_244 p0) = 64 from by unfold jd_244; exact ((if_neg q1).trans (if_pos q2))]
      exact ey_reti (cd_244 rfl) mt_244 rfl
    · refine ey_cne (cd_244 rfl) rfl rfl (show jw 1 = 1 from by decide) q2 ?_
      refine ey_bipush (cd_244 rfl) (by decide) ?_
      rw [show (jd_244 p0) = 80 from by unfold jd_244; exact ((if_neg q1).trans (if_neg q2))]
      exact ey_reti (cd_244 rfl) mt_244 rfl
theorem cd_245 {pc : Nat} {i : Instr × Nat} (h : mm_lk mm_c245 pc = some i) : mm_cd 245 pc = some i := h
theorem mt_245 : mm_MT 245 = (12, 2, some .int, 1, 0, []) := rfl
set_option maxRecDepth 100000 in
theorem ok_245 {L : Nat} {xs : Nat → Int32} {b : jH} (hb : 152 ≤ b.1) (h6 : b.1 ≤ 1000000) {p0 : Int} {m : jM} {o : Int} (e : jd_245 p0 m = some o) : mm_Runs (mm_xt L xs) 1 245 ([jR (some 76), jI p0].map jcv) (jaH (jhm b m)) (.inl (some (jcv (jI o)), jaH (jhm b m))) := by
  refine ey_run0 _ mt_245 (jsl_s rfl) ?_
  unfold jd_245 at e
  refine ey_iload_n (cd_245 rfl) rfl ?_
  refine ey_aload_n (cd_245 rfl) rfl ?_
  refine ey_getf_i (z := (m 76 33)) (cd_245 rfl) mt_245 rfl rfl rfl (jhm_gi hb 33) ?_
  refine ey_bipush (cd_245 rfl) (by decide) ?_
  refine ey_idiv (cd_245 rfl) (by decide) ?_
  obtain ⟨u1, e2, e⟩ := jbind e
  refine ey_irem (cd_245 rfl) (jnz_s e2) ?_
  cases e
  exact ey_reti (cd_245 rfl) mt_245 rfl
theorem cd_246 {pc : Nat} {i : Instr × Nat} (h : mm_lk mm_c246 pc = some i) : mm_cd 246 pc = some i := h
theorem mt_246 : mm_MT 246 = (12, 2, some .int, 1, 0, []) := rfl
set_option maxRecDepth 100000 in
theorem ok_246 {L : Nat} {xs : Nat → Int32} {b : jH} (hb : 152 ≤ b.1) (h6 : b.1 ≤ 1000000) {p0 : Int} {m : jM} {o : Int} (e : jd_246 p0 m = some o) : mm_Runs (mm_xt L xs) 1 246 ([jR (some 76), jI p0].map jcv) (jaH (jhm b m)) (.inl (some (jcv (jI o)), jaH (jhm b m))) := by
  refine ey_run0 _ mt_246 (jsl_s rfl) ?_
  unfold jd_246 at e
  refine ey_iload_n (cd_246 rfl) rfl ?_
  refine ey_aload_n (cd_246 rfl) rfl ?_
  refine ey_getf_i (z := (m 76 33)) (cd_246 rfl) mt_246 rfl rfl rfl (jhm_gi hb 33) ?_
  refine ey_bipush (cd_246 rfl) (by decide) ?_
  refine ey_idiv (cd_246 rfl) (by decide) ?_
  obtain ⟨u1, e2, e⟩ := jbind e
  refine ey_idiv (cd_246 rfl) (jnz_s e2) ?_
  cases e
  exact ey_reti (cd_246 rfl) mt_246 rfl
theorem cd_248 {pc : Nat} {i : Instr × Nat} (h : mm_lk mm_c248 pc = some i) : mm_cd 248 pc = some i := h
theorem mt_248 : mm_MT 248 = (12, 9, some .int, 5, 0, []) := rfl
set_option maxRecDepth 100000 in
theorem jk_248_b79 {L : Nat} {xs : Nat → Int32} {b : jH} (hb : 152 ≤ b.1) (h6 : b.1 ≤ 1000000) {x1 : Int} {x2 : Int} {x3 : Int} {x4 : Int} {x5 : Int} {x6 : Int} {x7 : Int} {x8 : Int} {m : jM} {o : ((Int × Int × Int) ⊕ (Int × Int))} {r : mm_R} (e : jd_248_b79 x1 x2 x3 x4 x5 x6 x7 x8 m = some o) (K : jsm (fun s => (∀ lv : jL, lv 0 = some (jR (some 76)) → lv 1 = some (jI x1) → lv 2 = some (jI x2) → lv 3 = some (jI x3) → lv 4 = some (jI x4) → lv 5 = some (jI x5) → lv 6 = some (jI s.1) → lv 7 = some (jI s.2.1) → lv 8 = some (jI s.2.2) → ey (mm_xt L xs) 2 248 9 lv [] (jhm b m) r)) (fun x => (∀ lv : jL, lv 6 = some (jI x.1) → lv 7 = some (jI x.2) → ey (mm_xt L xs) 2 248 85 lv [] (jhm b m) r)) o) : ∀ lv : jL, lv 0 = some (jR (some 76)) → lv 1 = some (jI x1) → lv 2 = some (jI x2) → lv 3 = some (jI x3) → lv 4 = some (jI x4) → lv 5 = some (jI x5) → lv 6 = some (jI x6) → lv 7 = some (jI x7) → lv 8 = some (jI x8) → ey (mm_xt L xs) 2 248 79 lv [] (jhm b m) r := by
  intro lv f0 f1 f2 f3 f4 f5 f6 f7 f8
  unfold jd_248_b79 at e
  refine ey_iinc (cd_248 rfl) mt_248 rfl f8 ?_
  refine ey_goto (cd_248 rfl) rfl ?_
  cases e
  exact K (jup lv 8 (jI (x8 + 1))) f0 f1 f2 f3 f4 f5 f6 (jup_pi (lv := lv) (j := 7) (v := jI (x8 + 1)) (z := x7) f7) rfl
set_option maxRecDepth 100000 in
theorem jk_248_b48 {L : Nat} {xs : Nat → Int32} {b : jH} (hb : 152 ≤ b.1) (h6 : b.1 ≤ 1000000) {x1 : Int} {x2 : Int} {x3 : Int} {x4 : Int} {x5 : Int} {x6 : Int} {x7 : Int} {x8 : Int} {m : jM} {o : ((Int × Int × Int) ⊕ (Int × Int))} {r : mm_R} (e : jd_248_b48 x1 x2 x3 x4 x5 x6 x7 x8 m = some o) (K : jsm (fun s => (∀ lv : jL, lv 0 = some (jR (some 76)) → lv 1 = some (jI x1) → lv 2 = some (jI x2) → lv 3 = some (jI x3) → lv 4 = some (jI x4) → lv 5 = some (jI x5) → lv 6 = some (jI s.1) → lv 7 = some (jI s.2.1) → lv 8 = some (jI s.2.2) → ey (mm_xt L xs) 2 248 9 lv [] (jhm b m) r)) (fun x => (∀ lv : jL, lv 6 = some (jI x.1) → lv 7 = some (jI x.2) → ey (mm_xt L xs) 2 248 85 lv [] (jhm b m) r)) o) : ∀ lv : jL, lv 0 = some (jR (some 76)) → lv 1 = some (jI x1) → lv 2 = some (jI x2) → lv 3 = some (jI x3) → lv 4 = some (jI x4) → lv 5 = some (jI x5) → lv 6 = some (jI x6) → lv 7 = some (jI x7) → lv 8 = some (jI x8) → ey (mm_xt L xs) 2 248 48 lv [] (jhm b m) r := by
  intro lv f0 f1 f2 f3 f4 f5 f6 f7 f8
  unfold jd_248_b48 at e
  refine ey_iload_n (cd_248 rfl) f3 ?_
  by_cases q3 : (jw x3) ≤ 0
  · rw [if_pos q3] at e
    refine ey_zle (cd_248 rfl) rfl rfl q3 ?_
    exact jk_248_b79 hb h6 e K lv f0 f1 f2 f3 f4 f5 f6 f7 f8
  · rw [if_neg q3] at e
    refine ey_yle (cd_248 rfl) rfl rfl q3 ?_
    refine ey_iload (cd_248 rfl) f6 ?_
    refine ey_aload_n (cd_248 rfl) f0 ?_
    refine ey_getf_r (cd_248 rfl) mt_248 rfl rfl rfl (jhm_gr (q := 109) hb rfl) ?_
    refine ey_aload_n (cd_248 rfl) f0 ?_
    refine ey_iload_n (cd_248 rfl) f1 ?_
    refine ey_iload_n (cd_248 rfl) f2 ?_
    refine ey_iload_n (cd_248 rfl) f3 ?_
    refine ey_iconst (cd_248 rfl) ?_
    refine ey_isub (cd_248 rfl) ?_
    refine ey_iload (cd_248 rfl) f4 ?_
    refine ey_iload (cd_248 rfl) f8 ?_
    refine ey_iadd (cd_248 rfl) ?_
    refine ey_cv (s0 := [jI (x4 + x8), jI (x3 - 1), jI x2, jI x1, jR (some 76), jR (some 109), jI x6]) (s1 := [jR (some 109), jI x6]) (st' := [jI (jd_237 x1 x2 (x3 - 1) (x4 + x8) m), jR (some 109), jI x6]) (cd_248 rfl) mt_248 mt_237 rfl rfl rfl (jhm_is hb) rfl (jsml_s rfl) rfl (ok_237 hb h6 ) ?_
    obtain ⟨v4, e5, e⟩ := jbind e
    refine ey_iald (cd_248 rfl) (jhm_ai hb h6 (by decide) rfl e5) ?_
    refine ey_iadd (cd_248 rfl) ?_
    refine ey_istore (cd_248 rfl) mt_248 rfl ?_
    refine ey_iinc (cd_248 rfl) mt_248 rfl f7 ?_
    exact jk_248_b79 hb h6 e K (jup (jup lv 6 (jI (x6 + v4))) 7 (jI (x7 + 1))) f0 f1 f2 f3 f4 (jup_o rfl (jup_pi (lv := lv) (j := 5) (v := jI (x6 + v4)) (z := x5) f5)) (jup_pi (lv := (jup lv 6 (jI (x6 + v4)))) (j := 6) (v := jI (x7 + 1)) (z := (x6 + v4)) rfl) rfl f8
set_option maxRecDepth 100000 in
theorem jk_248_s9 {L : Nat} {xs : Nat → Int32} {b : jH} (hb : 152 ≤ b.1) (h6 : b.1 ≤ 1000000) {x1 : Int} {x2 : Int} {x3 : Int} {x4 : Int} {x5 : Int} {x6 : Int} {x7 : Int} {x8 : Int} {m : jM} {o : ((Int × Int × Int) ⊕ (Int × Int))} {r : mm_R} (e : jd_248_s9 x1 x2 x3 x4 x5 x6 x7 x8 m = some o) (K : jsm (fun s => (∀ lv : jL, lv 0 = some (jR (some 76)) → lv 1 = some (jI x1) → lv 2 = some (jI x2) → lv 3 = some (jI x3) → lv 4 = some (jI x4) → lv 5 = some (jI x5) → lv 6 = some (jI s.1) → lv 7 = some (jI s.2.1) → lv 8 = some (jI s.2.2) → ey (mm_xt L xs) 2 248 9 lv [] (jhm b m) r)) (fun x => (∀ lv : jL, lv 6 = some (jI x.1) → lv 7 = some (jI x.2) → ey (mm_xt L xs) 2 248 85 lv [] (jhm b m) r)) o) : ∀ lv : jL, lv 0 = some (jR (some 76)) → lv 1 = some (jI x1) → lv 2 = some (jI x2) → lv 3 = some (jI x3) → lv 4 = some (jI x4) → lv 5 = some (jI x5) → lv 6 = some (jI x6) → lv 7 = some (jI x7) → lv 8 = some (jI x8) → ey (mm_xt L xs) 2 248 9 lv [] (jhm b m) r := by
  intro lv f0 f1 f2 f3 f4 f5 f6 f7 f8
  unfold jd_248_s9 at e
  refine ey_iload (cd_248 rfl) f8 ?_
  refine ey_iload (cd_248 rfl) f5 ?_
  by_cases q1 : (jw x5) ≤ (jw x8)
  · rw [if_pos q1] at e
    refine ey_cge (cd_248 rfl) rfl rfl rfl q1 ?_
    cases e
    exact K lv f6 f7
  · rw [if_neg q1] at e
    refine ey_nge (cd_248 rfl) rfl rfl rfl q1 ?_
    refine ey_iload (cd_248 rfl) f4 ?_
    by_cases q2 : (jw x4) ≤ 0
    · rw [if_pos q2] at e
      refine ey_zle (cd_248 rfl) rfl rfl q2 ?_
      exact jk_248_b48 hb h6 e K lv f0 f1 f2 f3 f4 f5 f6 f7 f8
    · rw [if_neg q2] at e
      refine ey_yle (cd_248 rfl) rfl rfl q2 ?_
      refine ey_iload (cd_248 rfl) f6 ?_
      refine ey_aload_n (cd_248 rfl) f0 ?_
      refine ey_getf_r (cd_248 rfl) mt_248 rfl rfl rfl (jhm_gr (q := 109) hb rfl) ?_
      refine ey_aload_n (cd_248 rfl) f0 ?_
      refine ey_iload_n (cd_248 rfl) f1 ?_
      refine ey_iload_n (cd_248 rfl) f2 ?_
      refine ey_iload_n (cd_248 rfl) f3 ?_
      refine ey_iload (cd_248 rfl) f8 ?_
      refine ey_iadd (cd_248 rfl) ?_
      refine ey_iload (cd_248 rfl) f4 ?_
      refine ey_iconst (cd_248 rfl) ?_
      refine ey_isub (cd_248 rfl) ?_
      refine ey_cv (s0 := [jI (x4 - 1), jI (x3 + x8), jI x2, jI x1, jR (some 76), jR (some 109), jI x6]) (s1 := [jR (some 109), jI x6]) (st' := [jI (jd_237 x1 x2 (x3 + x8) (x4 - 1) m), jR (some 109), jI x6]) (cd_248 rfl) mt_248 mt_237 rfl rfl rfl (jhm_is hb) rfl (jsml_s rfl) rfl (ok_237 hb h6 ) ?_
      obtain ⟨v6, e7, e⟩ := jbind e
      refine ey_iald (cd_248 rfl) (jhm_ai hb h6 (by decide) rfl e7) ?_
      refine ey_iadd (cd_248 rfl) ?_
      refine ey_istore (cd_248 rfl) mt_248 rfl ?_
      refine ey_iinc (cd_248 rfl) mt_248 rfl f7 ?_
      exact jk_248_b48 hb h6 e K (jup (jup lv 6 (jI (x6 + v6))) 7 (jI (x7 + 1))) f0 f1 f2 f3 f4 (jup_o rfl (jup_pi (lv := lv) (j := 5) (v := jI (x6 + v6)) (z := x5) f5)) (jup_pi (lv := (jup lv 6 (jI (x6 + v6)))) (j := 6) (v := jI (x7 + 1)) (z := (x6 + v6)) rfl) rfl f8
theorem jk_248_l9 {L : Nat} {xs : Nat → Int32} {b : jH} (hb : 152 ≤ b.1) (h6 : b.1 ≤ 1000000) {x1 : Int} {x2 : Int} {x3 : Int} {x4 : Int} {x5 : Int} {x6 : Int} {x7 : Int} {x8 : Int} {m : jM} {x : (Int × Int)} {r : mm_R} (e : jd_248_l9 x1 x2 x3 x4 x5 x6 x7 x8 m = some x) (K : (∀ lv : jL, lv 6 = some (jI x.1) → lv 7 = some (jI x.2) → ey (mm_xt L xs) 2 248 85 lv [] (jhm b m) r)) : ∀ lv : jL, lv 0 = some (jR (some 76)) → lv 1 = some (jI x1) → lv 2 = some (jI x2) → lv 3 = some (jI x3) → lv 4 = some (jI x4) → lv 5 = some (jI x5) → lv 6 = some (jI x6) → lv 7 = some (jI x7) → lv 8 = some (jI x8) → ey (mm_xt L xs) 2 248 9 lv [] (jhm b m) r := by
  unfold jd_248_l9 at e
  exact jlp_ok2 (P := fun s => ∀ lv : jL, lv 0 = some (jR (some 76)) → lv 1 = some (jI x1) → lv 2 = some (jI x2) → lv 3 = some (jI x3) → lv 4 = some (jI x4) → lv 5 = some (jI x5) → lv 6 = some (jI s.1) → lv 7 = some (jI s.2.1) → lv 8 = some (jI s.2.2) → ey (mm_xt L xs) 2 248 9 lv [] (jhm b m) r) (Q := fun x => (∀ lv : jL, lv 6 = some (jI x.1) → lv 7 = some (jI x.2) → ey (mm_xt L xs) 2 248 85 lv [] (jhm b m) r)) (fun s q hq hk => jk_248_s9 hb h6 hq hk) jfu _ x e K
set_option maxRecDepth 100000 in
theorem jk_248_b106 {L : Nat} {xs : Nat → Int32} {b : jH} (hb : 152 ≤ b.1) (h6 : b.1 ≤ 1000000) {y0 : Int} {m : jM} {o : Int} (e : jd_248_b106 y0 m = some o) : ∀ lv : jL, ey (mm_xt L xs) 2 248 106 lv [jI y0] (jhm b m) (.inl (some (jcv (jI o)), jaH (jhm b m))) := by
  intro lv 
  unfold jd_248_b106 at e
  cases e
  exact ey_reti (cd_248 rfl) mt_248 rfl
set_option maxRecDepth 100000 in
theorem ok_248 {L : Nat} {xs : Nat → Int32} {b : jH} (hb : 152 ≤ b.1) (h6 : b.1 ≤ 1000000) {p0 : Int} {p1 : Int} {p2 : Int} {p3 : Int} {p4 : Int} {m : jM} {o : Int} (e : jd_248 p0 p1 p2 p3 p4 m = some o) : mm_Runs (mm_xt L xs) 3 248 ([jR (some 76), jI p0, jI p1, jI p2, jI p3, jI p4].map jcv) (jaH (jhm b m)) (.inl (some (jcv (jI o)), jaH (jhm b m))) := by
  refine ey_run0 _ mt_248 (jsl_s rfl) ?_
  unfold jd_248 at e
  refine ey_iconst (cd_248 rfl) ?_
  refine ey_istore (cd_248 rfl) mt_248 rfl ?_
  refine ey_iconst (cd_248 rfl) ?_
  refine ey_istore (cd_248 rfl) mt_248 rfl ?_
  refine ey_iconst (cd_248 rfl) ?_
  refine ey_istore (cd_248 rfl) mt_248 rfl ?_
  obtain ⟨x8, e9, e⟩ := jbind e
  refine jk_248_l9 hb h6 e9 ?_ (jup (jup (jup (jlf (jla 0 [jR (some 76), jI p0, jI p1, jI p2, jI p3, jI p4])) 6 (jI 0)) 7 (jI 0)) 8 (jI 0)) rfl rfl rfl rfl rfl (jup_o rfl (jup_o rfl (jup_pi (lv := (jlf (jla 0 [jR (some 76), jI p0, jI p1, jI p2, jI p3, jI p4]))) (j := 5) (v := jI 0) (z := p4) rfl))) (jup_o rfl (jup_pi (lv := (jup (jlf (jla 0 [jR (some 76), jI p0, jI p1, jI p2, jI p3, jI p4])) 6 (jI 0))) (j := 6) (v := jI 0) (z := 0) rfl)) (jup_pi (lv := (jup (jup (jlf (jla 0 [jR (some 76), jI p0, jI p1, jI p2, jI p3, jI p4])) 6 (jI 0)) 7 (jI 0))) (j := 7) (v := jI 0) (z := 0) rfl) rfl
  intro lv g6 g7
  refine ey_iload (cd_248 rfl) g7 ?_
  by_cases q10 : (jw x8.2) = 0
  · rw [if_pos q10] at e
    refine ey_yne (cd_248 rfl) rfl rfl (fun w => w q10) ?_
    refine ey_sipush (cd_248 rfl) (by decide) ?_
    refine ey_goto (cd_248 rfl) rfl ?_
    exact jk_248_b106 hb h6 e lv 
  · rw [if_neg q10] at e
    refine ey_zne (cd_248 rfl) rfl rfl q10 ?_
    refine ey_iload (cd_248 rfl) g6 ?_
    refine ey_iload (cd_248 rfl) g7 ?_
    refine ey_iconst (cd_248 rfl) ?_
    refine ey_idiv (cd_248 rfl) (by decide) ?_
    refine ey_iadd (cd_248 rfl) ?_
    refine ey_iload (cd_248 rfl) g7 ?_
    obtain ⟨u11, e12, e⟩ := jbind e
    refine ey_idiv (cd_248 rfl) (jnz_s e12) ?_
    exact jk_248_b106 hb h6 e lv 
theorem cd_250 {pc : Nat} {i : Instr × Nat} (h : mm_lk mm_c250 pc = some i) : mm_cd 250 pc = some i := h
theorem mt_250 : mm_MT 250 = (12, 5, some .int, 4, 0, []) := rfl
set_option maxRecDepth 100000 in
theorem ok_250 {L : Nat} {xs : Nat → Int32} {b : jH} (hb : 152 ≤ b.1) (h6 : b.1 ≤ 1000000) {p0 : Int} {p1 : Int} {p2 : Int} {p3 : Int} {m : jM} {o : Int} (e : jd_250 p0 p1 p2 p3 m = some o) : mm_Runs (mm_xt L xs) 3 250 ([jR (some 76), jI p0, jI p1, jI p2, jI p3].map jcv) (jaH (jhm b m)) (.inl (some (jcv (jI o)), jaH (jhm b m))) := by
  refine ey_run0 _ mt_250 (jsl_s rfl) ?_
  unfold jd_250 at e
  refine ey_aload_n (cd_250 rfl) rfl ?_
  refine ey_getf_r (cd_250 rfl) mt_250 rfl rfl rfl (jhm_gr (q := 109) hb rfl) ?_
  refine ey_aload_n (cd_250 rfl) rfl ?_
  refine ey_iload_n (cd_250 rfl) rfl ?_
  refine ey_iload_n (cd_250 rfl) rfl ?_
  refine ey_iload_n (cd_250 rfl) rfl ?_
  refine ey_i2l (cd_250 rfl) ?_
  refine ey_iconst (cd_250 rfl) ?_
  refine ey_aload_n (cd_250 rfl) rfl ?_
  refine ey_getf_i (z := (m 76 33)) (cd_250 rfl) mt_250 rfl rfl rfl (jhm_gi hb 33) ?_
  refine ey_iload_n (cd_250 rfl) rfl ?_
  refine ey_cs (s0 := [jI p1, jI (m 76 33), jI 0, jJ (jw p2), jI p1, jI p0, jR (some 76), jR (some 109)]) (s1 := [jI 0, jJ (jw p2), jI p1, jI p0, jR (some 76), jR (some 109)]) (st' := [jI (jd_206 (m 76 33) p1), jI 0, jJ (jw p2), jI p1, jI p0, jR (some 76), jR (some 109)]) (cd_250 rfl) mt_250 mt_206 rfl (by decide) rfl rfl (jsml_s rfl) rfl (mm_Runs.up (d := 1) (by decide) (ok_206 )) ?_
  refine ey_iconst (cd_250 rfl) ?_
  refine ey_isub (cd_250 rfl) ?_
  refine ey_cs (s0 := [jI ((jd_206 (m 76 33) p1) - 1), jI 0, jJ (jw p2), jI p1, jI p0, jR (some 76), jR (some 109)]) (s1 := [jI p1, jI p0, jR (some 76), jR (some 109)]) (st' := [jI (jd_205 (jw p2) 0 ((jd_206 (m 76 33) p1) - 1)), jI p1, jI p0, jR (some 76), jR (some 109)]) (cd_250 rfl) mt_250 mt_205 rfl (by decide) rfl rfl (jsml_s rfl) rfl (mm_Runs.up (d := 1) (by decide) (ok_205 )) ?_
  refine ey_iload (cd_250 rfl) rfl ?_
  refine ey_i2l (cd_250 rfl) ?_
  refine ey_iconst (cd_250 rfl) ?_
  refine ey_aload_n (cd_250 rfl) rfl ?_
  refine ey_getf_i (z := (m 76 34)) (cd_250 rfl) mt_250 rfl rfl rfl (jhm_gi hb 34) ?_
  refine ey_iload_n (cd_250 rfl) rfl ?_
  refine ey_cs (s0 := [jI p1, jI (m 76 34), jI 0, jJ (jw p3), jI (jd_205 (jw p2) 0 ((jd_206 (m 76 33) p1) - 1)), jI p1, jI p0, jR (some 76), jR (some 109)]) (s1 := [jI 0, jJ (jw p3), jI (jd_205 (jw p2) 0 ((jd_206 (m 76 33) p1) - 1)), jI p1, jI p0, jR (some 76), jR (some 109)]) (st' := [jI (jd_206 (m 76 34) p1), jI 0, jJ (jw p3), jI (jd_205 (jw p2) 0 ((jd_206 (m 76 33) p1) - 1)), jI p1, jI p0, jR (some 76), jR (some 109)]) (cd_250 rfl) mt_250 mt_206 rfl (by decide) rfl rfl (jsml_s rfl) rfl (mm_Runs.up (d := 1) (by decide) (ok_206 )) ?_
  refine ey_iconst (cd_250 rfl) ?_
  refine ey_isub (cd_250 rfl) ?_
  refine ey_cs (s0 := [jI ((jd_206 (m 76 34) p1) - 1), jI 0, jJ (jw p3), jI (jd_205 (jw p2) 0 ((jd_206 (m 76 33) p1) - 1)), jI p1, jI p0, jR (some 76), jR (some 109)]) (s1 := [jI (jd_205 (jw p2) 0 ((jd_206 (m 76 33) p1) - 1)), jI p1, jI p0, jR (some 76), jR (some 109)]) (st' := [jI (jd_205 (jw p3) 0 ((jd_206 (m 76 34) p1) - 1)), jI (jd_205 (jw p2) 0 ((jd_206 (m 76 33) p1) - 1)), jI p1, jI p0, jR (some 76), jR (some 109)]) (cd_250 rfl) mt_250 mt_205 rfl (by decide) rfl rfl (jsml_s rfl) rfl (mm_Runs.up (d := 1) (by decide) (ok_205 )) ?_
  refine ey_cv (s0 := [jI (jd_205 (jw p3) 0 ((jd_206 (m 76 34) p1) - 1)), jI (jd_205 (jw p2) 0 ((jd_206 (m 76 33) p1) - 1)), jI p1, jI p0, jR (some 76), jR (some 109)]) (s1 := [jR (some 109)]) (st' := [jI (jd_237 p0 p1 (jd_205 (jw p2) 0 ((jd_206 (m 76 33) p1) - 1)) (jd_205 (jw p3) 0 ((jd_206 (m 76 34) p1) - 1)) m), jR (some 109)]) (cd_250 rfl) mt_250 mt_237 rfl rfl rfl (jhm_is hb) rfl (jsml_s rfl) rfl (ok_237 hb h6 ) ?_
  obtain ⟨v1, e2, e⟩ := jbind e
  refine ey_iald (cd_250 rfl) (jhm_ai hb h6 (by decide) rfl e2) ?_
  cases e
  exact ey_reti (cd_250 rfl) mt_250 rfl
theorem cd_251 {pc : Nat} {i : Instr × Nat} (h : mm_lk mm_c251 pc = some i) : mm_cd 251 pc = some i := h
theorem mt_251 : mm_MT 251 = (12, 14, some .int, 6, 0, []) := rfl
set_option maxRecDepth 100000 in
theorem jk_251_b200 {L : Nat} {xs : Nat → Int32} {b : jH} (hb : 152 ≤ b.1) (h6 : b.1 ≤ 1000000) {y0 : Int} {y1 : Int} {m : jM} {o : Int} (e : jd_251_b200 y0 y1 m = some o) : ∀ lv : jL, ey (mm_xt L xs) 3 251 200 lv [jI y0, jI y1] (jhm b m) (.inl (some (jcv (jI o)), jaH (jhm b m))) := by
  intro lv 
  unfold jd_251_b200 at e
  refine ey_iadd (cd_251 rfl) ?_
  refine ey_iconst (cd_251 rfl) ?_
  refine ey_iadd (cd_251 rfl) ?_
  refine ey_iconst (cd_251 rfl) ?_
  refine ey_idiv (cd_251 rfl) (by decide) ?_
  cases e
  exact ey_reti (cd_251 rfl) mt_251 rfl
set_option maxRecDepth 100000 in
theorem jk_251_b166 {L : Nat} {xs : Nat → Int32} {b : jH} (hb : 152 ≤ b.1) (h6 : b.1 ≤ 1000000) {x1 : Int} {x2 : Int} {x9 : Int} {x10 : Int} {x11 : Int} {x13 : Int} {m : jM} {o : Int} (e : jd_251_b166 x1 x2 x9 x10 x11 x13 m = some o) : ∀ lv : jL, lv 0 = some (jR (some 76)) → lv 1 = some (jI x1) → lv 2 = some (jI x2) → lv 9 = some (jI x9) → lv 10 = some (jI x10) → lv 11 = some (jI x11) → lv 13 = some (jI x13) → ey (mm_xt L xs) 3 251 166 lv [] (jhm b m) (.inl (some (jcv (jI o)), jaH (jhm b m))) := by
  intro lv f0 f1 f2 f9 f10 f11 f13
  unfold jd_251_b166 at e
  refine ey_iload (cd_251 rfl) f13 ?_
  refine ey_iload (cd_251 rfl) f11 ?_
  by_cases q14 : (jw x11) = 0
  · rw [if_pos q14] at e
    refine ey_zeq (cd_251 rfl) rfl rfl q14 ?_
    refine ey_aload_n (cd_251 rfl) f0 ?_
    refine ey_iload_n (cd_251 rfl) f1 ?_
    refine ey_iload_n (cd_251 rfl) f2 ?_
    refine ey_iload (cd_251 rfl) f9 ?_
    refine ey_iload (cd_251 rfl) f10 ?_
    refine ey_iconst (cd_251 rfl) ?_
    refine ey_iadd (cd_251 rfl) ?_
    obtain ⟨v15, e16, e⟩ := jbind e
    refine ey_cv (s0 := [jI (x10 + 1), jI x9, jI x2, jI x1, jR (some 76), jI x13]) (s1 := [jI x13]) (st' := [jI v15, jI x13]) (cd_251 rfl) mt_251 mt_250 rfl rfl rfl (jhm_is hb) rfl (jsml_s rfl) rfl (ok_250 hb h6 e16) ?_
    exact jk_251_b200 hb h6 e lv 
  · rw [if_neg q14] at e
    refine ey_yeq (cd_251 rfl) rfl rfl q14 ?_
    refine ey_aload_n (cd_251 rfl) f0 ?_
    refine ey_iload_n (cd_251 rfl) f1 ?_
    refine ey_iload_n (cd_251 rfl) f2 ?_
    refine ey_iload (cd_251 rfl) f9 ?_
    refine ey_iconst (cd_251 rfl) ?_
    refine ey_iadd (cd_251 rfl) ?_
    refine ey_iload (cd_251 rfl) f10 ?_
    obtain ⟨v17, e18, e⟩ := jbind e
    refine ey_cv (s0 := [jI x10, jI (x9 + 1), jI x2, jI x1, jR (some 76), jI x13]) (s1 := [jI x13]) (st' := [jI v17, jI x13]) (cd_251 rfl) mt_251 mt_250 rfl rfl rfl (jhm_is hb) rfl (jsml_s rfl) rfl (ok_250 hb h6 e18) ?_
    refine ey_goto (cd_251 rfl) rfl ?_
    exact jk_251_b200 hb h6 e lv 
set_option maxRecDepth 100000 in
theorem jk_251_b108 {L : Nat} {xs : Nat → Int32} {b : jH} (hb : 152 ≤ b.1) (h6 : b.1 ≤ 1000000) {x1 : Int} {x2 : Int} {x9 : Int} {x10 : Int} {x11 : Int} {x12 : Int} {x13 : Int} {m : jM} {o : Int} (e : jd_251_b108 x1 x2 x9 x10 x11 x12 x13 m = some o) : ∀ lv : jL, lv 0 = some (jR (some 76)) → lv 1 = some (jI x1) → lv 2 = some (jI x2) → lv 9 = some (jI x9) → lv 10 = some (jI x10) → lv 11 = some (jI x11) → lv 12 = some (jI x12) → lv 13 = some (jI x13) → ey (mm_xt L xs) 3 251 108 lv [] (jhm b m) (.inl (some (jcv (jI o)), jaH (jhm b m))) := by
  intro lv f0 f1 f2 f9 f10 f11 f12 f13
  unfold jd_251_b108 at e
  refine ey_iload (cd_251 rfl) f11 ?_
  by_cases q13 : (jw x11) = 0
  · rw [if_pos q13] at e
    refine ey_zeq (cd_251 rfl) rfl rfl q13 ?_
    exact jk_251_b166 hb h6 e lv f0 f1 f2 f9 f10 f11 f13
  · rw [if_neg q13] at e
    refine ey_yeq (cd_251 rfl) rfl rfl q13 ?_
    refine ey_iload (cd_251 rfl) f12 ?_
    by_cases q19 : (jw x12) = 0
    · rw [if_pos q19] at e
      refine ey_zeq (cd_251 rfl) rfl rfl q19 ?_
      exact jk_251_b166 hb h6 e lv f0 f1 f2 f9 f10 f11 f13
    · rw [if_neg q19] at e
      refine ey_yeq (cd_251 rfl) rfl rfl q19 ?_
      refine ey_iload (cd_251 rfl) f13 ?_
      refine ey_aload_n (cd_251 rfl) f0 ?_
      refine ey_iload_n (cd_251 rfl) f1 ?_
      refine ey_iload_n (cd_251 rfl) f2 ?_
      refine ey_iload (cd_251 rfl) f9 ?_
      refine ey_iconst (cd_251 rfl) ?_
      refine ey_iadd (cd_251 rfl) ?_
      refine ey_iload (cd_251 rfl) f10 ?_
      obtain ⟨v20, e21, e⟩ := jbind e
      refine ey_cv (s0 := [jI x10, jI (x9 + 1), jI x2, jI x1, jR (some 76), jI x13]) (s1 := [jI x13]) (st' := [jI v20, jI x13]) (cd_251 rfl) mt_251 mt_250 rfl rfl rfl (jhm_is hb) rfl (jsml_s rfl) rfl (ok_250 hb h6 e21) ?_
      refine ey_iadd (cd_251 rfl) ?_
      refine ey_aload_n (cd_251 rfl) f0 ?_
      refine ey_iload_n (cd_251 rfl) f1 ?_
      refine ey_iload_n (cd_251 rfl) f2 ?_
      refine ey_iload (cd_251 rfl) f9 ?_
      refine ey_iload (cd_251 rfl) f10 ?_
      refine ey_iconst (cd_251 rfl) ?_
      refine ey_iadd (cd_251 rfl) ?_
      obtain ⟨v22, e23, e⟩ := jbind e
      refine ey_cv (s0 := [jI (x10 + 1), jI x9, jI x2, jI x1, jR (some 76), jI (x13 + v20)]) (s1 := [jI (x13 + v20)]) (st' := [jI v22, jI (x13 + v20)]) (cd_251 rfl) mt_251 mt_250 rfl rfl rfl (jhm_is hb) rfl (jsml_s rfl) rfl (ok_250 hb h6 e23) ?_
      refine ey_iadd (cd_251 rfl) ?_
      refine ey_aload_n (cd_251 rfl) f0 ?_
      refine ey_iload_n (cd_251 rfl) f1 ?_
      refine ey_iload_n (cd_251 rfl) f2 ?_
      refine ey_iload (cd_251 rfl) f9 ?_
      refine ey_iconst (cd_251 rfl) ?_
      refine ey_iadd (cd_251 rfl) ?_
      refine ey_iload (cd_251 rfl) f10 ?_
      refine ey_iconst (cd_251 rfl) ?_
      refine ey_iadd (cd_251 rfl) ?_
      obtain ⟨v24, e25, e⟩ := jbind e
      refine ey_cv (s0 := [jI (x10 + 1), jI (x9 + 1), jI x2, jI x1, jR (some 76), jI ((x13 + v20) + v22)]) (s1 := [jI ((x13 + v20) + v22)]) (st' := [jI v24, jI ((x13 + v20) + v22)]) (cd_251 rfl) mt_251 mt_250 rfl rfl rfl (jhm_is hb) rfl (jsml_s rfl) rfl (ok_250 hb h6 e25) ?_
      refine ey_iadd (cd_251 rfl) ?_
      refine ey_iconst (cd_251 rfl) ?_
      refine ey_iadd (cd_251 rfl) ?_
      refine ey_iconst (cd_251 rfl) ?_
      refine ey_idiv (cd_251 rfl) (by decide) ?_
      cases e
      exact ey_reti (cd_251 rfl) mt_251 rfl
set_option maxRecDepth 100000 in
theorem ok_251 {L : Nat} {xs : Nat → Int32} {b : jH} (hb : 152 ≤ b.1) (h6 : b.1 ≤ 1000000) {p0 : Int} {p1 : Int} {p2 : Int} {p3 : Int} {p4 : Int} {p5 : Int} {m : jM} {o : Int} (e : jd_251 p0 p1 p2 p3 p4 p5 m = some o) : mm_Runs (mm_xt L xs) 4 251 ([jR (some 76), jI p0, jI p1, jI p2, jI p3, jI p4, jI p5].map jcv) (jaH (jhm b m)) (.inl (some (jcv (jI o)), jaH (jhm b m))) := by
  refine ey_run0 _ mt_251 (jsl_s rfl) ?_
  unfold jd_251 at e
  refine ey_iconst (cd_251 rfl) ?_
  refine ey_iload_n (cd_251 rfl) rfl ?_
  refine ey_imul (cd_251 rfl) ?_
  refine ey_iload_n (cd_251 rfl) rfl ?_
  have K32 : ∀ lv : jL, lv 0 = some (jR (some 76)) → lv 1 = some (jI p0) → lv 2 = some (jI p1) → lv 4 = some (jI p3) → lv 6 = some (jI p5) → ey (mm_xt L xs) 3 251 16 lv [jI (if (jw p1) = 0 then p4 else (jdiv p4 2)), jI (2 * p2)] (jhm b m) (.inl (some (jcv (jI o)), jaH (jhm b m))) := by
    intro lv g0 g1 g2 g4 g6
    refine ey_iadd (cd_251 rfl) ?_
    obtain ⟨z1, e2, e⟩ := jbind e
    refine ey_rs (s0 := [jI ((2 * p2) + (if (jw p1) = 0 then p4 else (jdiv p4 2)))]) (s1 := [jI z1]) (by rw [show ((2 * p2) + (if (jw p1) = 0 then p4 else (jdiv p4 2))) = z1 from Option.some.inj e2]) ?_
    refine ey_istore (cd_251 rfl) mt_251 rfl ?_
    refine ey_iconst (cd_251 rfl) ?_
    refine ey_iload (cd_251 rfl) g4 ?_
    refine ey_imul (cd_251 rfl) ?_
    refine ey_iload_n (cd_251 rfl) g2 ?_
    have K30 : ∀ lv : jL, lv 0 = some (jR (some 76)) → lv 1 = some (jI p0) → lv 2 = some (jI p1) → lv 7 = some (jI z1) → ey (mm_xt L xs) 3 251 36 lv [jI (if (jw p1) = 0 then p5 else (jdiv p5 2)), jI (2 * p3)] (jhm b m) (.inl (some (jcv (jI o)), jaH (jhm b m))) := by
      intro lv g0 g1 g2 g7
      refine ey_iadd (cd_251 rfl) ?_
      obtain ⟨z3, e4, e⟩ := jbind e
      refine ey_rs (s0 := [jI ((2 * p3) + (if (jw p1) = 0 then p5 else (jdiv p5 2)))]) (s1 := [jI z3]) (by rw [show ((2 * p3) + (if (jw p1) = 0 then p5 else (jdiv p5 2))) = z3 from Option.some.inj e4]) ?_
      refine ey_istore (cd_251 rfl) mt_251 rfl ?_
      refine ey_iload (cd_251 rfl) (jup_pi (lv := lv) (j := 7) (v := jI z3) (z := z1) g7) ?_
      refine ey_cs (s0 := [jI z1]) (s1 := []) (st' := [jI (jd_209 z1)]) (cd_251 rfl) mt_251 mt_209 rfl (by decide) rfl rfl (jsml_s rfl) rfl (mm_Runs.up (d := 1) (by decide) (ok_209 )) ?_
      refine ey_istore (cd_251 rfl) mt_251 rfl ?_
      refine ey_iload (cd_251 rfl) (jup_pi (lv := (jup lv 8 (jI z3))) (j := 8) (v := jI (jd_209 z1)) (z := z3) rfl) ?_
      refine ey_cs (s0 := [jI z3]) (s1 := []) (st' := [jI (jd_209 z3)]) (cd_251 rfl) mt_251 mt_209 rfl (by decide) rfl rfl (jsml_s rfl) rfl (mm_Runs.up (d := 1) (by decide) (ok_209 )) ?_
      refine ey_istore (cd_251 rfl) mt_251 rfl ?_
      refine ey_iload (cd_251 rfl) (jup_o rfl (jup_o rfl (jup_pi (lv := lv) (j := 7) (v := jI z3) (z := z1) g7))) ?_
      refine ey_iconst (cd_251 rfl) ?_
      refine ey_iand (cd_251 rfl) ?_
      refine ey_iconst (cd_251 rfl) ?_
      have K28 : ∀ lv : jL, lv 0 = some (jR (some 76)) → lv 1 = some (jI p0) → lv 2 = some (jI p1) → lv 8 = some (jI z3) → lv 9 = some (jI (jd_209 z1)) → lv 10 = some (jI (jd_209 z3)) → ey (mm_xt L xs) 3 251 66 lv [jI (if (jw (jand z1 1)) = 1 then 1 else 0)] (jhm b m) (.inl (some (jcv (jI o)), jaH (jhm b m))) := by
        intro lv g0 g1 g2 g8 g9 g10
        obtain ⟨z5, e6, e⟩ := jbind e
        refine ey_rs (s0 := [jI (if (jw (jand z1 1)) = 1 then 1 else 0)]) (s1 := [jI z5]) (by rw [show (if (jw (jand z1 1)) = 1 then 1 else 0) = z5 from Option.some.inj e6]) ?_
        refine ey_istore (cd_251 rfl) mt_251 rfl ?_
        refine ey_iload (cd_251 rfl) g8 ?_
        refine ey_iconst (cd_251 rfl) ?_
        refine ey_iand (cd_251 rfl) ?_
        refine ey_iconst (cd_251 rfl) ?_
        have K26 : ∀ lv : jL, lv 0 = some (jR (some 76)) → lv 1 = some (jI p0) → lv 2 = some (jI p1) → lv 9 = some (jI (jd_209 z1)) → lv 10 = some (jI (jd_209 z3)) → lv 11 = some (jI z5) → ey (mm_xt L xs) 3 251 81 lv [jI (if (jw (jand z3 1)) = 1 then 1 else 0)] (jhm b m) (.inl (some (jcv (jI o)), jaH (jhm b m))) := by
          intro lv g0 g1 g2 g9 g10 g11
          obtain ⟨z7, e8, e⟩ := jbind e
          refine ey_rs (s0 := [jI (if (jw (jand z3 1)) = 1 then 1 else 0)]) (s1 := [jI z7]) (by rw [show (if (jw (jand z3 1)) = 1 then 1 else 0) = z7 from Option.some.inj e8]) ?_
          refine ey_istore (cd_251 rfl) mt_251 rfl ?_
          refine ey_aload_n (cd_251 rfl) g0 ?_
          refine ey_iload_n (cd_251 rfl) g1 ?_
          refine ey_iload_n (cd_251 rfl) g2 ?_
          refine ey_iload (cd_251 rfl) g9 ?_
          refine ey_iload (cd_251 rfl) g10 ?_
          obtain ⟨v9, e10, e⟩ := jbind e
          refine ey_cv (s0 := [jI (jd_209 z3), jI (jd_209 z1), jI p1, jI p0, jR (some 76)]) (s1 := []) (st' := [jI v9]) (cd_251 rfl) mt_251 mt_250 rfl rfl rfl (jhm_is hb) rfl (jsml_s rfl) rfl (ok_250 hb h6 e10) ?_
          refine ey_istore (cd_251 rfl) mt_251 rfl ?_
          refine ey_iload (cd_251 rfl) (jup_o rfl (jup_pi (lv := lv) (j := 11) (v := jI z7) (z := z5) g11)) ?_
          by_cases q11 : (jw z5) = 0
          · rw [if_pos q11] at e
            refine ey_yne (cd_251 rfl) rfl rfl (fun w => w q11) ?_
            refine ey_iload (cd_251 rfl) (jup_pi (lv := (jup lv 12 (jI z7))) (j := 12) (v := jI v9) (z := z7) rfl) ?_
            by_cases q12 : (jw z7) = 0
            · rw [if_pos q12] at e
              refine ey_yne (cd_251 rfl) rfl rfl (fun w => w q12) ?_
              refine ey_iload (cd_251 rfl) rfl ?_
              cases e
              exact ey_reti (cd_251 rfl) mt_251 rfl
            · rw [if_neg q12] at e
              refine ey_zne (cd_251 rfl) rfl rfl q12 ?_
              exact jk_251_b108 hb h6 e (jup (jup lv 12 (jI z7)) 13 (jI v9)) g0 g1 g2 g9 g10 (jup_o rfl (jup_pi (lv := lv) (j := 11) (v := jI z7) (z := z5) g11)) (jup_pi (lv := (jup lv 12 (jI z7))) (j := 12) (v := jI v9) (z := z7) rfl) rfl
          · rw [if_neg q11] at e
            refine ey_zne (cd_251 rfl) rfl rfl q11 ?_
            exact jk_251_b108 hb h6 e (jup (jup lv 12 (jI z7)) 13 (jI v9)) g0 g1 g2 g9 g10 (jup_o rfl (jup_pi (lv := lv) (j := 11) (v := jI z7) (z := z5) g11)) (jup_pi (lv := (jup lv 12 (jI z7))) (j := 12) (v := jI v9) (z := z7) rfl) rfl
        by_cases q27 : (jw (jand z3 1)) = 1
        · refine ey_nne (cd_251 rfl) rfl rfl (show jw 1 = 1 from by decide) (fun w => w q27) ?_
          refine ey_iconst (cd_251 rfl) ?_
          refine ey_goto (cd_251 rfl) rfl ?_
          exact ey_rs (s0 := [jI 1]) (s1 := [jI (if (jw (jand z3 1)) = 1 then 1 else 0)]) (by rw [show ((if (jw (jand z3 1)) = 1 then 1 else 0) : Int) = 1 from (if_pos q27)]) (K26 (jup lv 11 (jI z5)) g0 g1 g2 g9 (jup_pi (lv := lv) (j := 10) (v := jI z5) (z := (jd_209 z3)) g10) rfl)
        · refine ey_cne (cd_251 rfl) rfl rfl (show jw 1 = 1 from by decide) q27 ?_
          refine ey_iconst (cd_251 rfl) ?_
          exact ey_rs (s0 := [jI 0]) (s1 := [jI (if (jw (jand z3 1)) = 1 then 1 else 0)]) (by rw [show ((if (jw (jand z3 1)) = 1 then 1 else 0) : Int) = 0 from (if_neg q27)]) (K26 (jup lv 11 (jI z5)) g0 g1 g2 g9 (jup_pi (lv := lv) (j := 10) (v := jI z5) (z := (jd_209 z3)) g10) rfl)
      by_cases q29 : (jw (jand z1 1)) = 1
      · refine ey_nne (cd_251 rfl) rfl rfl (show jw 1 = 1 from by decide) (fun w => w q29) ?_
        refine ey_iconst (cd_251 rfl) ?_
        refine ey_goto (cd_251 rfl) rfl ?_
        exact ey_rs (s0 := [jI 1]) (s1 := [jI (if (jw (jand z1 1)) = 1 then 1 else 0)]) (by rw [show ((if (jw (jand z1 1)) = 1 then 1 else 0) : Int) = 1 from (if_pos q29)]) (K28 (jup (jup (jup lv 8 (jI z3)) 9 (jI (jd_209 z1))) 10 (jI (jd_209 z3))) g0 g1 g2 (jup_o rfl (jup_pi (lv := (jup lv 8 (jI z3))) (j := 8) (v := jI (jd_209 z1)) (z := z3) rfl)) (jup_pi (lv := (jup (jup lv 8 (jI z3)) 9 (jI (jd_209 z1)))) (j := 9) (v := jI (jd_209 z3)) (z := (jd_209 z1)) rfl) rfl)
      · refine ey_cne (cd_251 rfl) rfl rfl (show jw 1 = 1 from by decide) q29 ?_
        refine ey_iconst (cd_251 rfl) ?_
        exact ey_rs (s0 := [jI 0]) (s1 := [jI (if (jw (jand z1 1)) = 1 then 1 else 0)]) (by rw [show ((if (jw (jand z1 1)) = 1 then 1 else 0) : Int) = 0 from (if_neg q29)]) (K28 (jup (jup (jup lv 8 (jI z3)) 9 (jI (jd_209 z1))) 10 (jI (jd_209 z3))) g0 g1 g2 (jup_o rfl (jup_pi (lv := (jup lv 8 (jI z3))) (j := 8) (v := jI (jd_209 z1)) (z := z3) rfl)) (jup_pi (lv := (jup (jup lv 8 (jI z3)) 9 (jI (jd_209 z1)))) (j := 9) (v := jI (jd_209 z3)) (z := (jd_209 z1)) rfl) rfl)
    by_cases q31 : (jw p1) = 0
    · refine ey_yne (cd_251 rfl) rfl rfl (fun w => w q31) ?_
      refine ey_iload (cd_251 rfl) (jup_pi (lv := lv) (j := 6) (v := jI z1) (z := p5) g6) ?_
      refine ey_goto (cd_251 rfl) rfl ?_
      exact ey_rs (s0 := [jI p5, jI (2 * p3)]) (s1 := [jI (if (jw p1) = 0 then p5 else (jdiv p5 2)), jI (2 * p3)]) (by rw [show ((if (jw p1) = 0 then p5 else (jdiv p5 2)) : Int) = p5 from (if_pos q31)]) (K30 (jup lv 7 (jI z1)) g0 g1 g2 rfl)
    · refine ey_zne (cd_251 rfl) rfl rfl q31 ?_
      refine ey_iload (cd_251 rfl) (jup_pi (lv := lv) (j := 6) (v := jI z1) (z := p5) g6) ?_
      refine ey_iconst (cd_251 rfl) ?_
      refine ey_idiv (cd_251 rfl) (by decide) ?_
      exact ey_rs (s0 := [jI (jdiv p5 2), jI (2 * p3)]) (s1 := [jI (if (jw p1) = 0 then p5 else (jdiv p5 2)), jI (2 * p3)]) (by rw [show ((if (jw p1) = 0 then p5 else (jdiv p5 2)) : Int) = (jdiv p5 2) from (if_neg q31)]) (K30 (jup lv 7 (jI z1)) g0 g1 g2 rfl)
  by_cases q33 : (jw p1) = 0
  · refine ey_yne (cd_251 rfl) rfl rfl (fun w => w q33) ?_
    refine ey_iload (cd_251 rfl) rfl ?_
    refine ey_goto (cd_251 rfl) rfl ?_
    exact ey_rs (s0 := [jI p4, jI (2 * p2)]) (s1 := [jI (if (jw p1) = 0 then p4 else (jdiv p4 2)), jI (2 * p2)]) (by rw [show ((if (jw p1) = 0 then p4 else (jdiv p4 2)) : Int) = p4 from (if_pos q33)]) (K32 (jlf (jla 0 [jR (some 76), jI p0, jI p1, jI p2, jI p3, jI p4, jI p5])) rfl rfl rfl rfl rfl)
  · refine ey_zne (cd_251 rfl) rfl rfl q33 ?_
    refine ey_iload (cd_251 rfl) rfl ?_
    refine ey_iconst (cd_251 rfl) ?_
    refine ey_idiv (cd_251 rfl) (by decide) ?_
    exact ey_rs (s0 := [jI (jdiv p4 2), jI (2 * p2)]) (s1 := [jI (if (jw p1) = 0 then p4 else (jdiv p4 2)), jI (2 * p2)]) (by rw [show ((if (jw p1) = 0 then p4 else (jdiv p4 2)) : Int) = (jdiv p4 2) from (if_neg q33)]) (K32 (jlf (jla 0 [jR (some 76), jI p0, jI p1, jI p2, jI p3, jI p4, jI p5])) rfl rfl rfl rfl rfl)
theorem cd_249 {pc : Nat} {i : Instr × Nat} (h : mm_lk mm_c249 pc = some i) : mm_cd 249 pc = some i := h
theorem mt_249 : mm_MT 249 = (12, 13, some .int, 9, 0, []) := rfl
set_option maxRecDepth 100000 in
theorem jk_249_b46 {L : Nat} {xs : Nat → Int32} {b : jH} (hb : 152 ≤ b.1) (h6 : b.1 ≤ 1000000) {x1 : Int} {x2 : Int} {x3 : Int} {x4 : Int} {x5 : Int} {x8 : Int} {x9 : Int} {y0 : Int} {m : jM} {o : Int} (e : jd_249_b46 x1 x2 x3 x4 x5 x8 x9 y0 m = some o) : ∀ lv : jL, lv 0 = some (jR (some 76)) → lv 1 = some (jI x1) → lv 2 = some (jI x2) → lv 3 = some (jI x3) → lv 4 = some (jI x4) → lv 5 = some (jI x5) → lv 8 = some (jI x8) → lv 9 = some (jI x9) → ey (mm_xt L xs) 4 249 46 lv [jI y0] (jhm b m) (.inl (some (jcv (jI o)), jaH (jhm b m))) := by
  intro lv f0 f1 f2 f3 f4 f5 f8 f9
  unfold jd_249_b46 at e
  refine ey_istore (cd_249 rfl) mt_249 rfl ?_
  refine ey_iload (cd_249 rfl) f5 ?_
  refine ey_iconst (cd_249 rfl) ?_
  by_cases q6 : (jw x5) = 3
  · rw [if_pos q6] at e
    refine ey_nne (cd_249 rfl) rfl rfl (show jw 3 = 3 from by decide) (fun w => w q6) ?_
    refine ey_iload (cd_249 rfl) rfl ?_
    cases e
    exact ey_reti (cd_249 rfl) mt_249 rfl
  · rw [if_neg q6] at e
    refine ey_cne (cd_249 rfl) rfl rfl (show jw 3 = 3 from by decide) q6 ?_
    refine ey_aload_n (cd_249 rfl) f0 ?_
    refine ey_aload_n (cd_249 rfl) f0 ?_
    refine ey_iload_n (cd_249 rfl) f1 ?_
    refine ey_iconst (cd_249 rfl) ?_
    obtain ⟨v7, e8, e⟩ := jbind e
    refine ey_cv (s0 := [jI 1, jI x1, jR (some 76), jR (some 76)]) (s1 := [jR (some 76)]) (st' := [jI v7, jR (some 76)]) (cd_249 rfl) mt_249 mt_239 rfl rfl rfl (jhm_is hb) rfl (jsml_s rfl) rfl (mm_Runs.up (d := 1) (by decide) (ok_239 hb h6 e8)) ?_
    refine ey_iload_n (cd_249 rfl) f2 ?_
    refine ey_iload_n (cd_249 rfl) f3 ?_
    refine ey_iload (cd_249 rfl) f4 ?_
    refine ey_iload (cd_249 rfl) f8 ?_
    refine ey_iload (cd_249 rfl) f9 ?_
    obtain ⟨v9, e10, e⟩ := jbind e
    refine ey_cv (s0 := [jI x9, jI x8, jI x4, jI x3, jI x2, jI v7, jR (some 76)]) (s1 := []) (st' := [jI v9]) (cd_249 rfl) mt_249 mt_251 rfl rfl rfl (jhm_is hb) rfl (jsml_s rfl) rfl (ok_251 hb h6 e10) ?_
    refine ey_istore (cd_249 rfl) mt_249 rfl ?_
    refine ey_iload (cd_249 rfl) f5 ?_
    refine ey_iconst (cd_249 rfl) ?_
    have K11 : ∀ lv : jL, ey (mm_xt L xs) 4 249 97 lv [jI (if (jw x5) = 4 then v9 else (jdiv ((y0 + v9) + 1) 2))] (jhm b m) (.inl (some (jcv (jI o)), jaH (jhm b m))) := by
      intro lv 
      cases e
      exact ey_reti (cd_249 rfl) mt_249 rfl
    by_cases q12 : (jw x5) = 4
    · refine ey_nne (cd_249 rfl) rfl rfl (show jw 4 = 4 from by decide) (fun w => w q12) ?_
      refine ey_iload (cd_249 rfl) rfl ?_
      refine ey_goto (cd_249 rfl) rfl ?_
      exact ey_rs (s0 := [jI v9]) (s1 := [jI (if (jw x5) = 4 then v9 else (jdiv ((y0 + v9) + 1) 2))]) (by rw [show ((if (jw x5) = 4 then v9 else (jdiv ((y0 + v9) + 1) 2)) : Int) = v9 from (if_pos q12)]) (K11 (jup (jup lv 11 (jI y0)) 12 (jI v9)) )
    · refine ey_cne (cd_249 rfl) rfl rfl (show jw 4 = 4 from by decide) q12 ?_
      refine ey_iload (cd_249 rfl) (jup_pi (lv := (jup lv 11 (jI y0))) (j := 11) (v := jI v9) (z := y0) rfl) ?_
      refine ey_iload (cd_249 rfl) rfl ?_
      refine ey_iadd (cd_249 rfl) ?_
      refine ey_iconst (cd_249 rfl) ?_
      refine ey_iadd (cd_249 rfl) ?_
      refine ey_iconst (cd_249 rfl) ?_
      refine ey_idiv (cd_249 rfl) (by decide) ?_
      exact ey_rs (s0 := [jI (jdiv ((y0 + v9) + 1) 2)]) (s1 := [jI (if (jw x5) = 4 then v9 else (jdiv ((y0 + v9) + 1) 2))]) (by rw [show ((if (jw x5) = 4 then v9 else (jdiv ((y0 + v9) + 1) 2)) : Int) = (jdiv ((y0 + v9) + 1) 2) from (if_neg q12)]) (K11 (jup (jup lv 11 (jI y0)) 12 (jI v9)) )
set_option maxRecDepth 100000 in
theorem ok_249 {L : Nat} {xs : Nat → Int32} {b : jH} (hb : 152 ≤ b.1) (h6 : b.1 ≤ 1000000) {p0 : Int} {p1 : Int} {p2 : Int} {p3 : Int} {p4 : Int} {p5 : Int} {p6 : Int} {p7 : Int} {p8 : Int} {m : jM} {o : Int} (e : jd_249 p0 p1 p2 p3 p4 p5 p6 p7 p8 m = some o) : mm_Runs (mm_xt L xs) 5 249 ([jR (some 76), jI p0, jI p1, jI p2, jI p3, jI p4, jI p5, jI p6, jI p7, jI p8].map jcv) (jaH (jhm b m)) (.inl (some (jcv (jI o)), jaH (jhm b m))) := by
  refine ey_run0 _ mt_249 (jsl_s rfl) ?_
  unfold jd_249 at e
  refine ey_aload_n (cd_249 rfl) rfl ?_
  refine ey_iload_n (cd_249 rfl) rfl ?_
  refine ey_aload_n (cd_249 rfl) rfl ?_
  refine ey_getf_r (cd_249 rfl) mt_249 rfl rfl rfl (jhm_gr (q := 102) hb rfl) ?_
  refine ey_iload_n (cd_249 rfl) rfl ?_
  obtain ⟨v1, e2, e⟩ := jbind e
  refine ey_iald (cd_249 rfl) (jhm_ai hb h6 (by decide) rfl e2) ?_
  refine ey_iconst (cd_249 rfl) ?_
  have K15 : ∀ lv : jL, lv 0 = some (jR (some 76)) → lv 1 = some (jI p0) → lv 2 = some (jI p1) → lv 3 = some (jI p2) → lv 4 = some (jI p3) → lv 5 = some (jI p4) → lv 6 = some (jI p5) → lv 7 = some (jI p6) → lv 8 = some (jI p7) → lv 9 = some (jI p8) → ey (mm_xt L xs) 4 249 17 lv [jI (if (jw v1) = 2 then 2 else 1), jI p0, jR (some 76)] (jhm b m) (.inl (some (jcv (jI o)), jaH (jhm b m))) := by
    intro lv g0 g1 g2 g3 g4 g5 g6 g7 g8 g9
    obtain ⟨v3, e4, e⟩ := jbind e
    refine ey_cv (s0 := [jI (if (jw v1) = 2 then 2 else 1), jI p0, jR (some 76)]) (s1 := []) (st' := [jI v3]) (cd_249 rfl) mt_249 mt_239 rfl rfl rfl (jhm_is hb) rfl (jsml_s rfl) rfl (mm_Runs.up (d := 1) (by decide) (ok_239 hb h6 e4)) ?_
    refine ey_istore (cd_249 rfl) mt_249 rfl ?_
    refine ey_iload (cd_249 rfl) g5 ?_
    refine ey_iconst (cd_249 rfl) ?_
    by_cases q5 : (jw p4) = 4
    · rw [if_pos q5] at e
      refine ey_nne (cd_249 rfl) rfl rfl (show jw 4 = 4 from by decide) (fun w => w q5) ?_
      refine ey_iconst (cd_249 rfl) ?_
      refine ey_goto (cd_249 rfl) rfl ?_
      exact jk_249_b46 hb h6 e (jup lv 10 (jI v3)) g0 g1 g2 g3 g4 g5 g8 (jup_pi (lv := lv) (j := 9) (v := jI v3) (z := p8) g9)
    · rw [if_neg q5] at e
      refine ey_cne (cd_249 rfl) rfl rfl (show jw 4 = 4 from by decide) q5 ?_
      refine ey_aload_n (cd_249 rfl) g0 ?_
      refine ey_iload (cd_249 rfl) rfl ?_
      refine ey_iload_n (cd_249 rfl) g2 ?_
      refine ey_iload_n (cd_249 rfl) g3 ?_
      refine ey_iload (cd_249 rfl) g4 ?_
      refine ey_iload (cd_249 rfl) g6 ?_
      refine ey_iload (cd_249 rfl) g7 ?_
      obtain ⟨v13, e14, e⟩ := jbind e
      refine ey_cv (s0 := [jI p6, jI p5, jI p3, jI p2, jI p1, jI v3, jR (some 76)]) (s1 := []) (st' := [jI v13]) (cd_249 rfl) mt_249 mt_251 rfl rfl rfl (jhm_is hb) rfl (jsml_s rfl) rfl (ok_251 hb h6 e14) ?_
      exact jk_249_b46 hb h6 e (jup lv 10 (jI v3)) g0 g1 g2 g3 g4 g5 g8 (jup_pi (lv := lv) (j := 9) (v := jI v3) (z := p8) g9)
  by_cases q16 : (jw v1) = 2
  · refine ey_nne (cd_249 rfl) rfl rfl (show jw 2 = 2 from by decide) (fun w => w q16) ?_
    refine ey_iconst (cd_249 rfl) ?_
    refine ey_goto (cd_249 rfl) rfl ?_
    exact ey_rs (s0 := [jI 2, jI p0, jR (some 76)]) (s1 := [jI (if (jw v1) = 2 then 2 else 1), jI p0, jR (some 76)]) (by rw [show ((if (jw v1) = 2 then 2 else 1) : Int) = 2 from (if_pos q16)]) (K15 (jlf (jla 0 [jR (some 76), jI p0, jI p1, jI p2, jI p3, jI p4, jI p5, jI p6, jI p7, jI p8])) rfl rfl rfl rfl rfl rfl rfl rfl rfl rfl)
  · refine ey_cne (cd_249 rfl) rfl rfl (show jw 2 = 2 from by decide) q16 ?_
    refine ey_iconst (cd_249 rfl) ?_
    exact ey_rs (s0 := [jI 1, jI p0, jR (some 76)]) (s1 := [jI (if (jw v1) = 2 then 2 else 1), jI p0, jR (some 76)]) (by rw [show ((if (jw v1) = 2 then 2 else 1) : Int) = 1 from (if_neg q16)]) (K15 (jlf (jla 0 [jR (some 76), jI p0, jI p1, jI p2, jI p3, jI p4, jI p5, jI p6, jI p7, jI p8])) rfl rfl rfl rfl rfl rfl rfl rfl rfl rfl)
theorem cd_247 {pc : Nat} {i : Instr × Nat} (h : mm_lk mm_c247 pc = some i) : mm_cd 247 pc = some i := h
theorem mt_247 : mm_MT 247 = (12, 16, none, 7, 0, []) := rfl
set_option maxRecDepth 100000 in
theorem jk_247_b194 {L : Nat} {xs : Nat → Int32} {b : jH} (hb : 152 ≤ b.1) (h6 : b.1 ≤ 1000000) {x1 : Int} {x2 : Int} {x3 : Int} {x4 : Int} {x5 : Int} {x6 : Int} {x7 : Int} {x8 : Int} {x9 : Int} {x10 : Int} {x11 : Int} {x12 : Int} {x13 : Int} {x14 : Int} {x15 : Int} {m : jM} {o : ((Int × jM) ⊕ jM)} {r : mm_R} (e : jd_247_b194 x1 x2 x3 x4 x5 x6 x7 x8 x9 x10 x11 x12 x13 x14 x15 m = some o) (K : jsm (fun s => (∀ lv : jL, lv 0 = some (jR (some 76)) → lv 1 = some (jI x1) → lv 2 = some (jI x2) → lv 3 = some (jI x3) → lv 4 = some (jI x4) → lv 5 = some (jI x5) → lv 6 = some (jI x6) → lv 7 = some (jI x7) → lv 8 = some (jI x8) → lv 9 = some (jI x9) → lv 10 = some (jI x10) → lv 11 = some (jI x11) → lv 12 = some (jI x12) → lv 13 = some (jI x13) → lv 14 = some (jI s.1) → ey (mm_xt L xs) 5 247 72 lv [] (jhm b s.2) r)) (fun x => (∀ lv : jL, lv 0 = some (jR (some 76)) → lv 1 = some (jI x1) → lv 2 = some (jI x2) → lv 3 = some (jI x3) → lv 4 = some (jI x4) → lv 5 = some (jI x5) → lv 6 = some (jI x6) → lv 7 = some (jI x7) → lv 8 = some (jI x8) → lv 9 = some (jI x9) → lv 10 = some (jI x10) → lv 11 = some (jI x11) → lv 12 = some (jI x12) → lv 13 = some (jI x13) → ey (mm_xt L xs) 5 247 221 lv [] (jhm b x) r)) o) : ∀ lv : jL, lv 0 = some (jR (some 76)) → lv 1 = some (jI x1) → lv 2 = some (jI x2) → lv 3 = some (jI x3) → lv 4 = some (jI x4) → lv 5 = some (jI x5) → lv 6 = some (jI x6) → lv 7 = some (jI x7) → lv 8 = some (jI x8) → lv 9 = some (jI x9) → lv 10 = some (jI x10) → lv 11 = some (jI x11) → lv 12 = some (jI x12) → lv 13 = some (jI x13) → lv 14 = some (jI x14) → lv 15 = some (jI x15) → ey (mm_xt L xs) 5 247 194 lv [] (jhm b m) r := by
  intro lv f0 f1 f2 f3 f4 f5 f6 f7 f8 f9 f10 f11 f12 f13 f14 f15
  unfold jd_247_b194 at e
  refine ey_aload_n (cd_247 rfl) f0 ?_
  refine ey_getf_r (cd_247 rfl) mt_247 rfl rfl rfl (jhm_gr (q := 114) hb rfl) ?_
  refine ey_iload (cd_247 rfl) f8 ?_
  refine ey_cs (s0 := [jI x8, jR (some 114)]) (s1 := [jR (some 114)]) (st' := [jI (jd_244 x8), jR (some 114)]) (cd_247 rfl) mt_247 mt_244 rfl (by decide) rfl rfl (jsml_s rfl) rfl (mm_Runs.up (d := 1) (by decide) (ok_244 )) ?_
  refine ey_iload (cd_247 rfl) f9 ?_
  refine ey_iload (cd_247 rfl) f13 ?_
  refine ey_imul (cd_247 rfl) ?_
  refine ey_iadd (cd_247 rfl) ?_
  refine ey_iload (cd_247 rfl) f14 ?_
  refine ey_iadd (cd_247 rfl) ?_
  refine ey_iload (cd_247 rfl) f15 ?_
  obtain ⟨m16, e17, e⟩ := jbind e
  refine ey_iast (cd_247 rfl) (jhm_ta hb (by decide) rfl e17) ?_
  refine ey_iinc (cd_247 rfl) mt_247 rfl f14 ?_
  refine ey_goto (cd_247 rfl) rfl ?_
  cases e
  exact K (jup lv 14 (jI (x14 + 1))) f0 f1 f2 f3 f4 f5 f6 f7 f8 f9 f10 f11 f12 (jup_pi (lv := lv) (j := 13) (v := jI (x14 + 1)) (z := x13) f13) rfl
set_option maxRecDepth 100000 in
theorem jk_247_b161 {L : Nat} {xs : Nat → Int32} {b : jH} (hb : 152 ≤ b.1) (h6 : b.1 ≤ 1000000) {x1 : Int} {x2 : Int} {x3 : Int} {x4 : Int} {x5 : Int} {x6 : Int} {x7 : Int} {x8 : Int} {x9 : Int} {x10 : Int} {x11 : Int} {x12 : Int} {x13 : Int} {x14 : Int} {x15 : Int} {m : jM} {o : ((Int × jM) ⊕ jM)} {r : mm_R} (e : jd_247_b161 x1 x2 x3 x4 x5 x6 x7 x8 x9 x10 x11 x12 x13 x14 x15 m = some o) (K : jsm (fun s => (∀ lv : jL, lv 0 = some (jR (some 76)) → lv 1 = some (jI x1) → lv 2 = some (jI x2) → lv 3 = some (jI x3) → lv 4 = some (jI x4) → lv 5 = some (jI x5) → lv 6 = some (jI x6) → lv 7 = some (jI x7) → lv 8 = some (jI x8) → lv 9 = some (jI x9) → lv 10 = some (jI x10) → lv 11 = some (jI x11) → lv 12 = some (jI x12) → lv 13 = some (jI x13) → lv 14 = some (jI s.1) → ey (mm_xt L xs) 5 247 72 lv [] (jhm b s.2) r)) (fun x => (∀ lv : jL, lv 0 = some (jR (some 76)) → lv 1 = some (jI x1) → lv 2 = some (jI x2) → lv 3 = some (jI x3) → lv 4 = some (jI x4) → lv 5 = some (jI x5) → lv 6 = some (jI x6) → lv 7 = some (jI x7) → lv 8 = some (jI x8) → lv 9 = some (jI x9) → lv 10 = some (jI x10) → lv 11 = some (jI x11) → lv 12 = some (jI x12) → lv 13 = some (jI x13) → ey (mm_xt L xs) 5 247 221 lv [] (jhm b x) r)) o) : ∀ lv : jL, lv 0 = some (jR (some 76)) → lv 1 = some (jI x1) → lv 2 = some (jI x2) → lv 3 = some (jI x3) → lv 4 = some (jI x4) → lv 5 = some (jI x5) → lv 6 = some (jI x6) → lv 7 = some (jI x7) → lv 8 = some (jI x8) → lv 9 = some (jI x9) → lv 10 = some (jI x10) → lv 11 = some (jI x11) → lv 12 = some (jI x12) → lv 13 = some (jI x13) → lv 14 = some (jI x14) → lv 15 = some (jI x15) → ey (mm_xt L xs) 5 247 161 lv [] (jhm b m) r := by
  intro lv f0 f1 f2 f3 f4 f5 f6 f7 f8 f9 f10 f11 f12 f13 f14 f15
  unfold jd_247_b161 at e
  refine ey_iload_n (cd_247 rfl) f3 ?_
  refine ey_iconst (cd_247 rfl) ?_
  by_cases q15 : (jw x3) < 3
  · rw [if_pos q15] at e
    refine ey_clt (cd_247 rfl) rfl rfl (show jw 3 = 3 from by decide) q15 ?_
    exact jk_247_b194 hb h6 e K lv f0 f1 f2 f3 f4 f5 f6 f7 f8 f9 f10 f11 f12 f13 f14 f15
  · rw [if_neg q15] at e
    refine ey_nlt (cd_247 rfl) rfl rfl (show jw 3 = 3 from by decide) q15 ?_
    refine ey_aload_n (cd_247 rfl) f0 ?_
    refine ey_iload_n (cd_247 rfl) f1 ?_
    refine ey_iload (cd_247 rfl) f8 ?_
    refine ey_iload (cd_247 rfl) f10 ?_
    refine ey_iload (cd_247 rfl) f14 ?_
    refine ey_iadd (cd_247 rfl) ?_
    refine ey_iload (cd_247 rfl) f11 ?_
    refine ey_iload (cd_247 rfl) f13 ?_
    refine ey_iadd (cd_247 rfl) ?_
    refine ey_iload_n (cd_247 rfl) f3 ?_
    refine ey_iload (cd_247 rfl) f4 ?_
    refine ey_iload (cd_247 rfl) f5 ?_
    refine ey_iload (cd_247 rfl) f6 ?_
    refine ey_iload (cd_247 rfl) f7 ?_
    obtain ⟨v18, e19, e⟩ := jbind e
    refine ey_cv (s0 := [jI x7, jI x6, jI x5, jI x4, jI x3, jI (x11 + x13), jI (x10 + x14), jI x8, jI x1, jR (some 76)]) (s1 := []) (st' := [jI v18]) (cd_247 rfl) mt_247 mt_249 rfl rfl rfl (jhm_is hb) rfl (jsml_s rfl) rfl (ok_249 hb h6 e19) ?_
    refine ey_istore (cd_247 rfl) mt_247 rfl ?_
    exact jk_247_b194 hb h6 e K (jup lv 15 (jI v18)) f0 f1 f2 f3 f4 f5 f6 f7 f8 f9 f10 f11 f12 f13 (jup_pi (lv := lv) (j := 14) (v := jI v18) (z := x14) f14) rfl
set_option maxRecDepth 100000 in
theorem jk_247_b159 {L : Nat} {xs : Nat → Int32} {b : jH} (hb : 152 ≤ b.1) (h6 : b.1 ≤ 1000000) {x1 : Int} {x2 : Int} {x3 : Int} {x4 : Int} {x5 : Int} {x6 : Int} {x7 : Int} {x8 : Int} {x9 : Int} {x10 : Int} {x11 : Int} {x12 : Int} {x13 : Int} {x14 : Int} {y0 : Int} {m : jM} {o : ((Int × jM) ⊕ jM)} {r : mm_R} (e : jd_247_b159 x1 x2 x3 x4 x5 x6 x7 x8 x9 x10 x11 x12 x13 x14 y0 m = some o) (K : jsm (fun s => (∀ lv : jL, lv 0 = some (jR (some 76)) → lv 1 = some (jI x1) → lv 2 = some (jI x2) → lv 3 = some (jI x3) → lv 4 = some (jI x4) → lv 5 = some (jI x5) → lv 6 = some (jI x6) → lv 7 = some (jI x7) → lv 8 = some (jI x8) → lv 9 = some (jI x9) → lv 10 = some (jI x10) → lv 11 = some (jI x11) → lv 12 = some (jI x12) → lv 13 = some (jI x13) → lv 14 = some (jI s.1) → ey (mm_xt L xs) 5 247 72 lv [] (jhm b s.2) r)) (fun x => (∀ lv : jL, lv 0 = some (jR (some 76)) → lv 1 = some (jI x1) → lv 2 = some (jI x2) → lv 3 = some (jI x3) → lv 4 = some (jI x4) → lv 5 = some (jI x5) → lv 6 = some (jI x6) → lv 7 = some (jI x7) → lv 8 = some (jI x8) → lv 9 = some (jI x9) → lv 10 = some (jI x10) → lv 11 = some (jI x11) → lv 12 = some (jI x12) → lv 13 = some (jI x13) → ey (mm_xt L xs) 5 247 221 lv [] (jhm b x) r)) o) : ∀ lv : jL, lv 0 = some (jR (some 76)) → lv 1 = some (jI x1) → lv 2 = some (jI x2) → lv 3 = some (jI x3) → lv 4 = some (jI x4) → lv 5 = some (jI x5) → lv 6 = some (jI x6) → lv 7 = some (jI x7) → lv 8 = some (jI x8) → lv 9 = some (jI x9) → lv 10 = some (jI x10) → lv 11 = some (jI x11) → lv 12 = some (jI x12) → lv 13 = some (jI x13) → lv 14 = some (jI x14) → ey (mm_xt L xs) 5 247 159 lv [jI y0] (jhm b m) r := by
  intro lv f0 f1 f2 f3 f4 f5 f6 f7 f8 f9 f10 f11 f12 f13 f14
  unfold jd_247_b159 at e
  refine ey_istore (cd_247 rfl) mt_247 rfl ?_
  exact jk_247_b161 hb h6 e K (jup lv 15 (jI y0)) f0 f1 f2 f3 f4 f5 f6 f7 f8 f9 f10 f11 f12 f13 (jup_pi (lv := lv) (j := 14) (v := jI y0) (z := x14) f14) rfl
set_option maxRecDepth 100000 in
theorem jk_247_b122 {L : Nat} {xs : Nat → Int32} {b : jH} (hb : 152 ≤ b.1) (h6 : b.1 ≤ 1000000) {x1 : Int} {x2 : Int} {x3 : Int} {x4 : Int} {x5 : Int} {x6 : Int} {x7 : Int} {x8 : Int} {x9 : Int} {x10 : Int} {x11 : Int} {x12 : Int} {x13 : Int} {x14 : Int} {x15 : Int} {m : jM} {o : ((Int × jM) ⊕ jM)} {r : mm_R} (e : jd_247_b122 x1 x2 x3 x4 x5 x6 x7 x8 x9 x10 x11 x12 x13 x14 x15 m = some o) (K : jsm (fun s => (∀ lv : jL, lv 0 = some (jR (some 76)) → lv 1 = some (jI x1) → lv 2 = some (jI x2) → lv 3 = some (jI x3) → lv 4 = some (jI x4) → lv 5 = some (jI x5) → lv 6 = some (jI x6) → lv 7 = some (jI x7) → lv 8 = some (jI x8) → lv 9 = some (jI x9) → lv 10 = some (jI x10) → lv 11 = some (jI x11) → lv 12 = some (jI x12) → lv 13 = some (jI x13) → lv 14 = some (jI s.1) → ey (mm_xt L xs) 5 247 72 lv [] (jhm b s.2) r)) (fun x => (∀ lv : jL, lv 0 = some (jR (some 76)) → lv 1 = some (jI x1) → lv 2 = some (jI x2) → lv 3 = some (jI x3) → lv 4 = some (jI x4) → lv 5 = some (jI x5) → lv 6 = some (jI x6) → lv 7 = some (jI x7) → lv 8 = some (jI x8) → lv 9 = some (jI x9) → lv 10 = some (jI x10) → lv 11 = some (jI x11) → lv 12 = some (jI x12) → lv 13 = some (jI x13) → ey (mm_xt L xs) 5 247 221 lv [] (jhm b x) r)) o) : ∀ lv : jL, lv 0 = some (jR (some 76)) → lv 1 = some (jI x1) → lv 2 = some (jI x2) → lv 3 = some (jI x3) → lv 4 = some (jI x4) → lv 5 = some (jI x5) → lv 6 = some (jI x6) → lv 7 = some (jI x7) → lv 8 = some (jI x8) → lv 9 = some (jI x9) → lv 10 = some (jI x10) → lv 11 = some (jI x11) → lv 12 = some (jI x12) → lv 13 = some (jI x13) → lv 14 = some (jI x14) → lv 15 = some (jI x15) → ey (mm_xt L xs) 5 247 122 lv [] (jhm b m) r := by
  intro lv f0 f1 f2 f3 f4 f5 f6 f7 f8 f9 f10 f11 f12 f13 f14 f15
  unfold jd_247_b122 at e
  refine ey_iload_n (cd_247 rfl) f3 ?_
  refine ey_iconst (cd_247 rfl) ?_
  by_cases q13 : (jw x3) = 2
  · rw [if_pos q13] at e
    refine ey_nne (cd_247 rfl) rfl rfl (show jw 2 = 2 from by decide) (fun w => w q13) ?_
    refine ey_iload (cd_247 rfl) f11 ?_
    by_cases q14 : (jw x11) = 0
    · rw [if_pos q14] at e
      refine ey_yne (cd_247 rfl) rfl rfl (fun w => w q14) ?_
      refine ey_sipush (cd_247 rfl) (by decide) ?_
      refine ey_goto (cd_247 rfl) rfl ?_
      exact jk_247_b159 hb h6 e K lv f0 f1 f2 f3 f4 f5 f6 f7 f8 f9 f10 f11 f12 f13 f14
    · rw [if_neg q14] at e
      refine ey_zne (cd_247 rfl) rfl rfl q14 ?_
      refine ey_aload_n (cd_247 rfl) f0 ?_
      refine ey_getf_r (cd_247 rfl) mt_247 rfl rfl rfl (jhm_gr (q := 109) hb rfl) ?_
      refine ey_aload_n (cd_247 rfl) f0 ?_
      refine ey_iload_n (cd_247 rfl) f1 ?_
      refine ey_iload (cd_247 rfl) f8 ?_
      refine ey_iload (cd_247 rfl) f10 ?_
      refine ey_iload (cd_247 rfl) f14 ?_
      refine ey_iadd (cd_247 rfl) ?_
      refine ey_iload (cd_247 rfl) f11 ?_
      refine ey_iconst (cd_247 rfl) ?_
      refine ey_isub (cd_247 rfl) ?_
      refine ey_cv (s0 := [jI (x11 - 1), jI (x10 + x14), jI x8, jI x1, jR (some 76), jR (some 109)]) (s1 := [jR (some 109)]) (st' := [jI (jd_237 x1 x8 (x10 + x14) (x11 - 1) m), jR (some 109)]) (cd_247 rfl) mt_247 mt_237 rfl rfl rfl (jhm_is hb) rfl (jsml_s rfl) rfl (mm_Runs.up (d := 2) (by decide) (ok_237 hb h6 )) ?_
      obtain ⟨v20, e21, e⟩ := jbind e
      refine ey_iald (cd_247 rfl) (jhm_ai hb h6 (by decide) rfl e21) ?_
      exact jk_247_b159 hb h6 e K lv f0 f1 f2 f3 f4 f5 f6 f7 f8 f9 f10 f11 f12 f13 f14
  · rw [if_neg q13] at e
    refine ey_cne (cd_247 rfl) rfl rfl (show jw 2 = 2 from by decide) q13 ?_
    exact jk_247_b161 hb h6 e K lv f0 f1 f2 f3 f4 f5 f6 f7 f8 f9 f10 f11 f12 f13 f14 f15
set_option maxRecDepth 100000 in
theorem jk_247_b120 {L : Nat} {xs : Nat → Int32} {b : jH} (hb : 152 ≤ b.1) (h6 : b.1 ≤ 1000000) {x1 : Int} {x2 : Int} {x3 : Int} {x4 : Int} {x5 : Int} {x6 : Int} {x7 : Int} {x8 : Int} {x9 : Int} {x10 : Int} {x11 : Int} {x12 : Int} {x13 : Int} {x14 : Int} {y0 : Int} {m : jM} {o : ((Int × jM) ⊕ jM)} {r : mm_R} (e : jd_247_b120 x1 x2 x3 x4 x5 x6 x7 x8 x9 x10 x11 x12 x13 x14 y0 m = some o) (K : jsm (fun s => (∀ lv : jL, lv 0 = some (jR (some 76)) → lv 1 = some (jI x1) → lv 2 = some (jI x2) → lv 3 = some (jI x3) → lv 4 = some (jI x4) → lv 5 = some (jI x5) → lv 6 = some (jI x6) → lv 7 = some (jI x7) → lv 8 = some (jI x8) → lv 9 = some (jI x9) → lv 10 = some (jI x10) → lv 11 = some (jI x11) → lv 12 = some (jI x12) → lv 13 = some (jI x13) → lv 14 = some (jI s.1) → ey (mm_xt L xs) 5 247 72 lv [] (jhm b s.2) r)) (fun x => (∀ lv : jL, lv 0 = some (jR (some 76)) → lv 1 = some (jI x1) → lv 2 = some (jI x2) → lv 3 = some (jI x3) → lv 4 = some (jI x4) → lv 5 = some (jI x5) → lv 6 = some (jI x6) → lv 7 = some (jI x7) → lv 8 = some (jI x8) → lv 9 = some (jI x9) → lv 10 = some (jI x10) → lv 11 = some (jI x11) → lv 12 = some (jI x12) → lv 13 = some (jI x13) → ey (mm_xt L xs) 5 247 221 lv [] (jhm b x) r)) o) : ∀ lv : jL, lv 0 = some (jR (some 76)) → lv 1 = some (jI x1) → lv 2 = some (jI x2) → lv 3 = some (jI x3) → lv 4 = some (jI x4) → lv 5 = some (jI x5) → lv 6 = some (jI x6) → lv 7 = some (jI x7) → lv 8 = some (jI x8) → lv 9 = some (jI x9) → lv 10 = some (jI x10) → lv 11 = some (jI x11) → lv 12 = some (jI x12) → lv 13 = some (jI x13) → lv 14 = some (jI x14) → ey (mm_xt L xs) 5 247 120 lv [jI y0] (jhm b m) r := by
  intro lv f0 f1 f2 f3 f4 f5 f6 f7 f8 f9 f10 f11 f12 f13 f14
  unfold jd_247_b120 at e
  refine ey_istore (cd_247 rfl) mt_247 rfl ?_
  exact jk_247_b122 hb h6 e K (jup lv 15 (jI y0)) f0 f1 f2 f3 f4 f5 f6 f7 f8 f9 f10 f11 f12 f13 (jup_pi (lv := lv) (j := 14) (v := jI y0) (z := x14) f14) rfl
set_option maxRecDepth 100000 in
theorem jk_247_s72 {L : Nat} {xs : Nat → Int32} {b : jH} (hb : 152 ≤ b.1) (h6 : b.1 ≤ 1000000) {x1 : Int} {x2 : Int} {x3 : Int} {x4 : Int} {x5 : Int} {x6 : Int} {x7 : Int} {x8 : Int} {x9 : Int} {x10 : Int} {x11 : Int} {x12 : Int} {x13 : Int} {x14 : Int} {m : jM} {o : ((Int × jM) ⊕ jM)} {r : mm_R} (e : jd_247_s72 x1 x2 x3 x4 x5 x6 x7 x8 x9 x10 x11 x12 x13 x14 m = some o) (K : jsm (fun s => (∀ lv : jL, lv 0 = some (jR (some 76)) → lv 1 = some (jI x1) → lv 2 = some (jI x2) → lv 3 = some (jI x3) → lv 4 = some (jI x4) → lv 5 = some (jI x5) → lv 6 = some (jI x6) → lv 7 = some (jI x7) → lv 8 = some (jI x8) → lv 9 = some (jI x9) → lv 10 = some (jI x10) → lv 11 = some (jI x11) → lv 12 = some (jI x12) → lv 13 = some (jI x13) → lv 14 = some (jI s.1) → ey (mm_xt L xs) 5 247 72 lv [] (jhm b s.2) r)) (fun x => (∀ lv : jL, lv 0 = some (jR (some 76)) → lv 1 = some (jI x1) → lv 2 = some (jI x2) → lv 3 = some (jI x3) → lv 4 = some (jI x4) → lv 5 = some (jI x5) → lv 6 = some (jI x6) → lv 7 = some (jI x7) → lv 8 = some (jI x8) → lv 9 = some (jI x9) → lv 10 = some (jI x10) → lv 11 = some (jI x11) → lv 12 = some (jI x12) → lv 13 = some (jI x13) → ey (mm_xt L xs) 5 247 221 lv [] (jhm b x) r)) o) : ∀ lv : jL, lv 0 = some (jR (some 76)) → lv 1 = some (jI x1) → lv 2 = some (jI x2) → lv 3 = some (jI x3) → lv 4 = some (jI x4) → lv 5 = some (jI x5) → lv 6 = some (jI x6) → lv 7 = some (jI x7) → lv 8 = some (jI x8) → lv 9 = some (jI x9) → lv 10 = some (jI x10) → lv 11 = some (jI x11) → lv 12 = some (jI x12) → lv 13 = some (jI x13) → lv 14 = some (jI x14) → ey (mm_xt L xs) 5 247 72 lv [] (jhm b m) r := by
  intro lv f0 f1 f2 f3 f4 f5 f6 f7 f8 f9 f10 f11 f12 f13 f14
  unfold jd_247_s72 at e
  refine ey_iload (cd_247 rfl) f14 ?_
  refine ey_iload (cd_247 rfl) f9 ?_
  by_cases q10 : (jw x9) ≤ (jw x14)
  · rw [if_pos q10] at e
    refine ey_cge (cd_247 rfl) rfl rfl rfl q10 ?_
    cases e
    exact K lv f0 f1 f2 f3 f4 f5 f6 f7 f8 f9 f10 f11 f12 f13
  · rw [if_neg q10] at e
    refine ey_nge (cd_247 rfl) rfl rfl rfl q10 ?_
    refine ey_iload (cd_247 rfl) f12 ?_
    refine ey_istore (cd_247 rfl) mt_247 rfl ?_
    refine ey_iload_n (cd_247 rfl) f3 ?_
    refine ey_iconst (cd_247 rfl) ?_
    by_cases q11 : (jw x3) = 1
    · rw [if_pos q11] at e
      refine ey_nne (cd_247 rfl) rfl rfl (show jw 1 = 1 from by decide) (fun w => w q11) ?_
      refine ey_iload (cd_247 rfl) f10 ?_
      by_cases q12 : (jw x10) = 0
      · rw [if_pos q12] at e
        refine ey_yne (cd_247 rfl) rfl rfl (fun w => w q12) ?_
        refine ey_sipush (cd_247 rfl) (by decide) ?_
        refine ey_goto (cd_247 rfl) rfl ?_
        exact jk_247_b120 hb h6 e K (jup lv 15 (jI x12)) f0 f1 f2 f3 f4 f5 f6 f7 f8 f9 f10 f11 f12 f13 (jup_pi (lv := lv) (j := 14) (v := jI x12) (z := x14) f14)
      · rw [if_neg q12] at e
        refine ey_zne (cd_247 rfl) rfl rfl q12 ?_
        refine ey_aload_n (cd_247 rfl) f0 ?_
        refine ey_getf_r (cd_247 rfl) mt_247 rfl rfl rfl (jhm_gr (q := 109) hb rfl) ?_
        refine ey_aload_n (cd_247 rfl) f0 ?_
        refine ey_iload_n (cd_247 rfl) f1 ?_
        refine ey_iload (cd_247 rfl) f8 ?_
        refine ey_iload (cd_247 rfl) f10 ?_
        refine ey_iconst (cd_247 rfl) ?_
        refine ey_isub (cd_247 rfl) ?_
        refine ey_iload (cd_247 rfl) f11 ?_
        refine ey_iload (cd_247 rfl) f13 ?_
        refine ey_iadd (cd_247 rfl) ?_
        refine ey_cv (s0 := [jI (x11 + x13), jI (x10 - 1), jI x8, jI x1, jR (some 76), jR (some 109)]) (s1 := [jR (some 109)]) (st' := [jI (jd_237 x1 x8 (x10 - 1) (x11 + x13) m), jR (some 109)]) (cd_247 rfl) mt_247 mt_237 rfl rfl rfl (jhm_is hb) rfl (jsml_s rfl) rfl (mm_Runs.up (d := 2) (by decide) (ok_237 hb h6 )) ?_
        obtain ⟨v22, e23, e⟩ := jbind e
        refine ey_iald (cd_247 rfl) (jhm_ai hb h6 (by decide) rfl e23) ?_
        exact jk_247_b120 hb h6 e K (jup lv 15 (jI x12)) f0 f1 f2 f3 f4 f5 f6 f7 f8 f9 f10 f11 f12 f13 (jup_pi (lv := lv) (j := 14) (v := jI x12) (z := x14) f14)
    · rw [if_neg q11] at e
      refine ey_cne (cd_247 rfl) rfl rfl (show jw 1 = 1 from by decide) q11 ?_
      exact jk_247_b122 hb h6 e K (jup lv 15 (jI x12)) f0 f1 f2 f3 f4 f5 f6 f7 f8 f9 f10 f11 f12 f13 (jup_pi (lv := lv) (j := 14) (v := jI x12) (z := x14) f14) rfl
theorem jk_247_l72 {L : Nat} {xs : Nat → Int32} {b : jH} (hb : 152 ≤ b.1) (h6 : b.1 ≤ 1000000) {x1 : Int} {x2 : Int} {x3 : Int} {x4 : Int} {x5 : Int} {x6 : Int} {x7 : Int} {x8 : Int} {x9 : Int} {x10 : Int} {x11 : Int} {x12 : Int} {x13 : Int} {x14 : Int} {m : jM} {x : jM} {r : mm_R} (e : jd_247_l72 x1 x2 x3 x4 x5 x6 x7 x8 x9 x10 x11 x12 x13 x14 m = some x) (K : (∀ lv : jL, lv 0 = some (jR (some 76)) → lv 1 = some (jI x1) → lv 2 = some (jI x2) → lv 3 = some (jI x3) → lv 4 = some (jI x4) → lv 5 = some (jI x5) → lv 6 = some (jI x6) → lv 7 = some (jI x7) → lv 8 = some (jI x8) → lv 9 = some (jI x9) → lv 10 = some (jI x10) → lv 11 = some (jI x11) → lv 12 = some (jI x12) → lv 13 = some (jI x13) → ey (mm_xt L xs) 5 247 221 lv [] (jhm b x) r)) : ∀ lv : jL, lv 0 = some (jR (some 76)) → lv 1 = some (jI x1) → lv 2 = some (jI x2) → lv 3 = some (jI x3) → lv 4 = some (jI x4) → lv 5 = some (jI x5) → lv 6 = some (jI x6) → lv 7 = some (jI x7) → lv 8 = some (jI x8) → lv 9 = some (jI x9) → lv 10 = some (jI x10) → lv 11 = some (jI x11) → lv 12 = some (jI x12) → lv 13 = some (jI x13) → lv 14 = some (jI x14) → ey (mm_xt L xs) 5 247 72 lv [] (jhm b m) r := by
  unfold jd_247_l72 at e
  exact jlp_ok2 (P := fun s => ∀ lv : jL, lv 0 = some (jR (some 76)) → lv 1 = some (jI x1) → lv 2 = some (jI x2) → lv 3 = some (jI x3) → lv 4 = some (jI x4) → lv 5 = some (jI x5) → lv 6 = some (jI x6) → lv 7 = some (jI x7) → lv 8 = some (jI x8) → lv 9 = some (jI x9) → lv 10 = some (jI x10) → lv 11 = some (jI x11) → lv 12 = some (jI x12) → lv 13 = some (jI x13) → lv 14 = some (jI s.1) → ey (mm_xt L xs) 5 247 72 lv [] (jhm b s.2) r) (Q := fun x => (∀ lv : jL, lv 0 = some (jR (some 76)) → lv 1 = some (jI x1) → lv 2 = some (jI x2) → lv 3 = some (jI x3) → lv 4 = some (jI x4) → lv 5 = some (jI x5) → lv 6 = some (jI x6) → lv 7 = some (jI x7) → lv 8 = some (jI x8) → lv 9 = some (jI x9) → lv 10 = some (jI x10) → lv 11 = some (jI x11) → lv 12 = some (jI x12) → lv 13 = some (jI x13) → ey (mm_xt L xs) 5 247 221 lv [] (jhm b x) r)) (fun s q hq hk => jk_247_s72 hb h6 hq hk) jfu _ x e K
set_option maxRecDepth 100000 in
theorem jk_247_s62 {L : Nat} {xs : Nat → Int32} {b : jH} (hb : 152 ≤ b.1) (h6 : b.1 ≤ 1000000) {x1 : Int} {x2 : Int} {x3 : Int} {x4 : Int} {x5 : Int} {x6 : Int} {x7 : Int} {x8 : Int} {x9 : Int} {x10 : Int} {x11 : Int} {x12 : Int} {x13 : Int} {m : jM} {o : ((Int × jM) ⊕ jM)} {r : mm_R} (e : jd_247_s62 x1 x2 x3 x4 x5 x6 x7 x8 x9 x10 x11 x12 x13 m = some o) (K : jsm (fun s => (∀ lv : jL, lv 0 = some (jR (some 76)) → lv 1 = some (jI x1) → lv 2 = some (jI x2) → lv 3 = some (jI x3) → lv 4 = some (jI x4) → lv 5 = some (jI x5) → lv 6 = some (jI x6) → lv 7 = some (jI x7) → lv 8 = some (jI x8) → lv 9 = some (jI x9) → lv 10 = some (jI x10) → lv 11 = some (jI x11) → lv 12 = some (jI x12) → lv 13 = some (jI s.1) → ey (mm_xt L xs) 5 247 62 lv [] (jhm b s.2) r)) (fun x => (∀ lv : jL, lv 0 = some (jR (some 76)) → lv 1 = some (jI x1) → lv 2 = some (jI x2) → lv 3 = some (jI x3) → lv 4 = some (jI x4) → lv 5 = some (jI x5) → lv 6 = some (jI x6) → lv 7 = some (jI x7) → lv 8 = some (jI x8) → ey (mm_xt L xs) 5 247 227 lv [] (jhm b x) r)) o) : ∀ lv : jL, lv 0 = some (jR (some 76)) → lv 1 = some (jI x1) → lv 2 = some (jI x2) → lv 3 = some (jI x3) → lv 4 = some (jI x4) → lv 5 = some (jI x5) → lv 6 = some (jI x6) → lv 7 = some (jI x7) → lv 8 = some (jI x8) → lv 9 = some (jI x9) → lv 10 = some (jI x10) → lv 11 = some (jI x11) → lv 12 = some (jI x12) → lv 13 = some (jI x13) → ey (mm_xt L xs) 5 247 62 lv [] (jhm b m) r := by
  intro lv f0 f1 f2 f3 f4 f5 f6 f7 f8 f9 f10 f11 f12 f13
  unfold jd_247_s62 at e
  refine ey_iload (cd_247 rfl) f13 ?_
  refine ey_iload (cd_247 rfl) f9 ?_
  by_cases q9 : (jw x9) ≤ (jw x13)
  · rw [if_pos q9] at e
    refine ey_cge (cd_247 rfl) rfl rfl rfl q9 ?_
    cases e
    exact K lv f0 f1 f2 f3 f4 f5 f6 f7 f8
  · rw [if_neg q9] at e
    refine ey_nge (cd_247 rfl) rfl rfl rfl q9 ?_
    refine ey_iconst (cd_247 rfl) ?_
    refine ey_istore (cd_247 rfl) mt_247 rfl ?_
    obtain ⟨x24, e25, e⟩ := jbind e
    refine jk_247_l72 hb h6 e25 ?_ (jup lv 14 (jI 0)) f0 f1 f2 f3 f4 f5 f6 f7 f8 f9 f10 f11 f12 (jup_pi (lv := lv) (j := 13) (v := jI 0) (z := x13) f13) rfl
    intro lv g0 g1 g2 g3 g4 g5 g6 g7 g8 g9 g10 g11 g12 g13
    refine ey_iinc (cd_247 rfl) mt_247 rfl g13 ?_
    refine ey_goto (cd_247 rfl) rfl ?_
    cases e
    exact K (jup lv 13 (jI (x13 + 1))) g0 g1 g2 g3 g4 g5 g6 g7 g8 g9 g10 g11 (jup_pi (lv := lv) (j := 12) (v := jI (x13 + 1)) (z := x12) g12) rfl
theorem jk_247_l62 {L : Nat} {xs : Nat → Int32} {b : jH} (hb : 152 ≤ b.1) (h6 : b.1 ≤ 1000000) {x1 : Int} {x2 : Int} {x3 : Int} {x4 : Int} {x5 : Int} {x6 : Int} {x7 : Int} {x8 : Int} {x9 : Int} {x10 : Int} {x11 : Int} {x12 : Int} {x13 : Int} {m : jM} {x : jM} {r : mm_R} (e : jd_247_l62 x1 x2 x3 x4 x5 x6 x7 x8 x9 x10 x11 x12 x13 m = some x) (K : (∀ lv : jL, lv 0 = some (jR (some 76)) → lv 1 = some (jI x1) → lv 2 = some (jI x2) → lv 3 = some (jI x3) → lv 4 = some (jI x4) → lv 5 = some (jI x5) → lv 6 = some (jI x6) → lv 7 = some (jI x7) → lv 8 = some (jI x8) → ey (mm_xt L xs) 5 247 227 lv [] (jhm b x) r)) : ∀ lv : jL, lv 0 = some (jR (some 76)) → lv 1 = some (jI x1) → lv 2 = some (jI x2) → lv 3 = some (jI x3) → lv 4 = some (jI x4) → lv 5 = some (jI x5) → lv 6 = some (jI x6) → lv 7 = some (jI x7) → lv 8 = some (jI x8) → lv 9 = some (jI x9) → lv 10 = some (jI x10) → lv 11 = some (jI x11) → lv 12 = some (jI x12) → lv 13 = some (jI x13) → ey (mm_xt L xs) 5 247 62 lv [] (jhm b m) r := by
  unfold jd_247_l62 at e
  exact jlp_ok2 (P := fun s => ∀ lv : jL, lv 0 = some (jR (some 76)) → lv 1 = some (jI x1) → lv 2 = some (jI x2) → lv 3 = some (jI x3) → lv 4 = some (jI x4) → lv 5 = some (jI x5) → lv 6 = some (jI x6) → lv 7 = some (jI x7) → lv 8 = some (jI x8) → lv 9 = some (jI x9) → lv 10 = some (jI x10) → lv 11 = some (jI x11) → lv 12 = some (jI x12) → lv 13 = some (jI s.1) → ey (mm_xt L xs) 5 247 62 lv [] (jhm b s.2) r) (Q := fun x => (∀ lv : jL, lv 0 = some (jR (some 76)) → lv 1 = some (jI x1) → lv 2 = some (jI x2) → lv 3 = some (jI x3) → lv 4 = some (jI x4) → lv 5 = some (jI x5) → lv 6 = some (jI x6) → lv 7 = some (jI x7) → lv 8 = some (jI x8) → ey (mm_xt L xs) 5 247 227 lv [] (jhm b x) r)) (fun s q hq hk => jk_247_s62 hb h6 hq hk) jfu _ x e K
set_option maxRecDepth 100000 in
theorem jk_247_b57 {L : Nat} {xs : Nat → Int32} {b : jH} (hb : 152 ≤ b.1) (h6 : b.1 ≤ 1000000) {x1 : Int} {x2 : Int} {x3 : Int} {x4 : Int} {x5 : Int} {x6 : Int} {x7 : Int} {x8 : Int} {x9 : Int} {x10 : Int} {x11 : Int} {y0 : Int} {m : jM} {o : ((Int × jM) ⊕ jM)} {r : mm_R} (e : jd_247_b57 x1 x2 x3 x4 x5 x6 x7 x8 x9 x10 x11 y0 m = some o) (K : jsm (fun s => (∀ lv : jL, lv 0 = some (jR (some 76)) → lv 1 = some (jI x1) → lv 2 = some (jI x2) → lv 3 = some (jI x3) → lv 4 = some (jI x4) → lv 5 = some (jI x5) → lv 6 = some (jI x6) → lv 7 = some (jI x7) → lv 8 = some (jI s.1) → ey (mm_xt L xs) 5 247 3 lv [] (jhm b s.2) r)) (fun x => (∀ lv : jL, ey (mm_xt L xs) 5 247 233 lv [] (jhm b x) r)) o) : ∀ lv : jL, lv 0 = some (jR (some 76)) → lv 1 = some (jI x1) → lv 2 = some (jI x2) → lv 3 = some (jI x3) → lv 4 = some (jI x4) → lv 5 = some (jI x5) → lv 6 = some (jI x6) → lv 7 = some (jI x7) → lv 8 = some (jI x8) → lv 9 = some (jI x9) → lv 10 = some (jI x10) → lv 11 = some (jI x11) → ey (mm_xt L xs) 5 247 57 lv [jI y0] (jhm b m) r := by
  intro lv f0 f1 f2 f3 f4 f5 f6 f7 f8 f9 f10 f11
  unfold jd_247_b57 at e
  refine ey_istore (cd_247 rfl) mt_247 rfl ?_
  refine ey_iconst (cd_247 rfl) ?_
  refine ey_istore (cd_247 rfl) mt_247 rfl ?_
  obtain ⟨x26, e27, e⟩ := jbind e
  refine jk_247_l62 hb h6 e27 ?_ (jup (jup lv 12 (jI y0)) 13 (jI 0)) f0 f1 f2 f3 f4 f5 f6 f7 f8 f9 f10 (jup_o rfl (jup_pi (lv := lv) (j := 11) (v := jI y0) (z := x11) f11)) (jup_pi (lv := (jup lv 12 (jI y0))) (j := 12) (v := jI 0) (z := y0) rfl) rfl
  intro lv g0 g1 g2 g3 g4 g5 g6 g7 g8
  refine ey_iinc (cd_247 rfl) mt_247 rfl g8 ?_
  refine ey_goto (cd_247 rfl) rfl ?_
  cases e
  exact K (jup lv 8 (jI (x8 + 1))) g0 g1 g2 g3 g4 g5 g6 (jup_pi (lv := lv) (j := 7) (v := jI (x8 + 1)) (z := x7) g7) rfl
set_option maxRecDepth 100000 in
theorem jk_247_s3 {L : Nat} {xs : Nat → Int32} {b : jH} (hb : 152 ≤ b.1) (h6 : b.1 ≤ 1000000) {x1 : Int} {x2 : Int} {x3 : Int} {x4 : Int} {x5 : Int} {x6 : Int} {x7 : Int} {x8 : Int} {m : jM} {o : ((Int × jM) ⊕ jM)} {r : mm_R} (e : jd_247_s3 x1 x2 x3 x4 x5 x6 x7 x8 m = some o) (K : jsm (fun s => (∀ lv : jL, lv 0 = some (jR (some 76)) → lv 1 = some (jI x1) → lv 2 = some (jI x2) → lv 3 = some (jI x3) → lv 4 = some (jI x4) → lv 5 = some (jI x5) → lv 6 = some (jI x6) → lv 7 = some (jI x7) → lv 8 = some (jI s.1) → ey (mm_xt L xs) 5 247 3 lv [] (jhm b s.2) r)) (fun x => (∀ lv : jL, ey (mm_xt L xs) 5 247 233 lv [] (jhm b x) r)) o) : ∀ lv : jL, lv 0 = some (jR (some 76)) → lv 1 = some (jI x1) → lv 2 = some (jI x2) → lv 3 = some (jI x3) → lv 4 = some (jI x4) → lv 5 = some (jI x5) → lv 6 = some (jI x6) → lv 7 = some (jI x7) → lv 8 = some (jI x8) → ey (mm_xt L xs) 5 247 3 lv [] (jhm b m) r := by
  intro lv f0 f1 f2 f3 f4 f5 f6 f7 f8
  unfold jd_247_s3 at e
  refine ey_iload (cd_247 rfl) f8 ?_
  refine ey_iconst (cd_247 rfl) ?_
  by_cases q1 : 3 ≤ (jw x8)
  · rw [if_pos q1] at e
    refine ey_cge (cd_247 rfl) rfl rfl (show jw 3 = 3 from by decide) q1 ?_
    cases e
    exact K lv 
  · rw [if_neg q1] at e
    refine ey_nge (cd_247 rfl) rfl rfl (show jw 3 = 3 from by decide) q1 ?_
    refine ey_iload (cd_247 rfl) f8 ?_
    refine ey_cs (s0 := [jI x8]) (s1 := []) (st' := [jI (jd_243 x8)]) (cd_247 rfl) mt_247 mt_243 rfl (by decide) rfl rfl (jsml_s rfl) rfl (mm_Runs.up (d := 1) (by decide) (ok_243 )) ?_
    refine ey_istore (cd_247 rfl) mt_247 rfl ?_
    refine ey_iload (cd_247 rfl) rfl ?_
    refine ey_aload_n (cd_247 rfl) f0 ?_
    refine ey_iload_n (cd_247 rfl) f2 ?_
    obtain ⟨v2, e3, e⟩ := jbind e
    refine ey_cv (s0 := [jI x2, jR (some 76), jI (jd_243 x8)]) (s1 := [jI (jd_243 x8)]) (st' := [jI v2, jI (jd_243 x8)]) (cd_247 rfl) mt_247 mt_245 rfl rfl rfl (jhm_is hb) rfl (jsml_s rfl) rfl (mm_Runs.up (d := 1) (by decide) (ok_245 hb h6 e3)) ?_
    refine ey_imul (cd_247 rfl) ?_
    refine ey_istore (cd_247 rfl) mt_247 rfl ?_
    refine ey_iload (cd_247 rfl) (jup_pi (lv := (jup lv 9 (jI (jd_243 x8)))) (j := 9) (v := jI ((jd_243 x8) * v2)) (z := (jd_243 x8)) rfl) ?_
    refine ey_aload_n (cd_247 rfl) f0 ?_
    refine ey_iload_n (cd_247 rfl) f2 ?_
    obtain ⟨v4, e5, e⟩ := jbind e
    refine ey_cv (s0 := [jI x2, jR (some 76), jI (jd_243 x8)]) (s1 := [jI (jd_243 x8)]) (st' := [jI v4, jI (jd_243 x8)]) (cd_247 rfl) mt_247 mt_246 rfl rfl rfl (jhm_is hb) rfl (jsml_s rfl) rfl (mm_Runs.up (d := 1) (by decide) (ok_246 hb h6 e5)) ?_
    refine ey_imul (cd_247 rfl) ?_
    refine ey_istore (cd_247 rfl) mt_247 rfl ?_
    refine ey_iload_n (cd_247 rfl) f3 ?_
    by_cases q6 : (jw x3) = 0
    · rw [if_pos q6] at e
      refine ey_yne (cd_247 rfl) rfl rfl (fun w => w q6) ?_
      refine ey_aload_n (cd_247 rfl) f0 ?_
      refine ey_iload_n (cd_247 rfl) f1 ?_
      refine ey_iload (cd_247 rfl) (jup_o rfl (jup_o rfl (jup_pi (lv := lv) (j := 8) (v := jI (jd_243 x8)) (z := x8) f8))) ?_
      refine ey_iload (cd_247 rfl) (jup_pi (lv := (jup (jup lv 9 (jI (jd_243 x8))) 10 (jI ((jd_243 x8) * v2)))) (j := 10) (v := jI ((jd_243 x8) * v4)) (z := ((jd_243 x8) * v2)) rfl) ?_
      refine ey_iload (cd_247 rfl) rfl ?_
      refine ey_iload (cd_247 rfl) (jup_o rfl (jup_pi (lv := (jup lv 9 (jI (jd_243 x8)))) (j := 9) (v := jI ((jd_243 x8) * v2)) (z := (jd_243 x8)) rfl)) ?_
      obtain ⟨v7, e8, e⟩ := jbind e
      refine ey_cv (s0 := [jI (jd_243 x8), jI ((jd_243 x8) * v4), jI ((jd_243 x8) * v2), jI x8, jI x1, jR (some 76)]) (s1 := []) (st' := [jI v7]) (cd_247 rfl) mt_247 mt_248 rfl rfl rfl (jhm_is hb) rfl (jsml_s rfl) rfl (mm_Runs.up (d := 3) (by decide) (ok_248 hb h6 e8)) ?_
      refine ey_goto (cd_247 rfl) rfl ?_
      exact jk_247_b57 hb h6 e K (jup (jup (jup lv 9 (jI (jd_243 x8))) 10 (jI ((jd_243 x8) * v2))) 11 (jI ((jd_243 x8) * v4))) f0 f1 f2 f3 f4 f5 f6 f7 (jup_o rfl (jup_o rfl (jup_pi (lv := lv) (j := 8) (v := jI (jd_243 x8)) (z := x8) f8))) (jup_o rfl (jup_pi (lv := (jup lv 9 (jI (jd_243 x8)))) (j := 9) (v := jI ((jd_243 x8) * v2)) (z := (jd_243 x8)) rfl)) (jup_pi (lv := (jup (jup lv 9 (jI (jd_243 x8))) 10 (jI ((jd_243 x8) * v2)))) (j := 10) (v := jI ((jd_243 x8) * v4)) (z := ((jd_243 x8) * v2)) rfl) rfl
    · rw [if_neg q6] at e
      refine ey_zne (cd_247 rfl) rfl rfl q6 ?_
      refine ey_iconst (cd_247 rfl) ?_
      exact jk_247_b57 hb h6 e K (jup (jup (jup lv 9 (jI (jd_243 x8))) 10 (jI ((jd_243 x8) * v2))) 11 (jI ((jd_243 x8) * v4))) f0 f1 f2 f3 f4 f5 f6 f7 (jup_o rfl (jup_o rfl (jup_pi (lv := lv) (j := 8) (v := jI (jd_243 x8)) (z := x8) f8))) (jup_o rfl (jup_pi (lv := (jup lv 9 (jI (jd_243 x8)))) (j := 9) (v := jI ((jd_243 x8) * v2)) (z := (jd_243 x8)) rfl)) (jup_pi (lv := (jup (jup lv 9 (jI (jd_243 x8))) 10 (jI ((jd_243 x8) * v2)))) (j := 10) (v := jI ((jd_243 x8) * v4)) (z := ((jd_243 x8) * v2)) rfl) rfl
theorem jk_247_l3 {L : Nat} {xs : Nat → Int32} {b : jH} (hb : 152 ≤ b.1) (h6 : b.1 ≤ 1000000) {x1 : Int} {x2 : Int} {x3 : Int} {x4 : Int} {x5 : Int} {x6 : Int} {x7 : Int} {x8 : Int} {m : jM} {x : jM} {r : mm_R} (e : jd_247_l3 x1 x2 x3 x4 x5 x6 x7 x8 m = some x) (K : (∀ lv : jL, ey (mm_xt L xs) 5 247 233 lv [] (jhm b x) r)) : ∀ lv : jL, lv 0 = some (jR (some 76)) → lv 1 = some (jI x1) → lv 2 = some (jI x2) → lv 3 = some (jI x3) → lv 4 = some (jI x4) → lv 5 = some (jI x5) → lv 6 = some (jI x6) → lv 7 = some (jI x7) → lv 8 = some (jI x8) → ey (mm_xt L xs) 5 247 3 lv [] (jhm b m) r := by
  unfold jd_247_l3 at e
  exact jlp_ok2 (P := fun s => ∀ lv : jL, lv 0 = some (jR (some 76)) → lv 1 = some (jI x1) → lv 2 = some (jI x2) → lv 3 = some (jI x3) → lv 4 = some (jI x4) → lv 5 = some (jI x5) → lv 6 = some (jI x6) → lv 7 = some (jI x7) → lv 8 = some (jI s.1) → ey (mm_xt L xs) 5 247 3 lv [] (jhm b s.2) r) (Q := fun x => (∀ lv : jL, ey (mm_xt L xs) 5 247 233 lv [] (jhm b x) r)) (fun s q hq hk => jk_247_s3 hb h6 hq hk) jfu _ x e K
set_option maxRecDepth 100000 in
theorem ok_247 {L : Nat} {xs : Nat → Int32} {b : jH} (hb : 152 ≤ b.1) (h6 : b.1 ≤ 1000000) {p0 : Int} {p1 : Int} {p2 : Int} {p3 : Int} {p4 : Int} {p5 : Int} {p6 : Int} {m : jM} {o : jM} (e : jd_247 p0 p1 p2 p3 p4 p5 p6 m = some o) : mm_Runs (mm_xt L xs) 6 247 ([jR (some 76), jI p0, jI p1, jI p2, jI p3, jI p4, jI p5, jI p6].map jcv) (jaH (jhm b m)) (.inl (none, jaH (jhm b o))) := by
  refine ey_run0 _ mt_247 (jsl_s rfl) ?_
  unfold jd_247 at e
  refine ey_iconst (cd_247 rfl) ?_
  refine ey_istore (cd_247 rfl) mt_247 rfl ?_
  obtain ⟨x28, e29, e⟩ := jbind e
  refine jk_247_l3 hb h6 e29 ?_ (jup (jlf (jla 0 [jR (some 76), jI p0, jI p1, jI p2, jI p3, jI p4, jI p5, jI p6])) 8 (jI 0)) rfl rfl rfl rfl rfl rfl rfl (jup_pi (lv := (jlf (jla 0 [jR (some 76), jI p0, jI p1, jI p2, jI p3, jI p4, jI p5, jI p6]))) (j := 7) (v := jI 0) (z := p6) rfl) rfl
  intro lv 
  cases e
  exact ey_retv (cd_247 rfl) mt_247 rfl
theorem cd_252 {pc : Nat} {i : Instr × Nat} (h : mm_lk mm_c252 pc = some i) : mm_cd 252 pc = some i := h
theorem mt_252 : mm_MT 252 = (12, 1, some .int, 1, 1, []) := rfl
set_option maxRecDepth 100000 in
theorem ok_252 {L : Nat} {xs : Nat → Int32} {p0 : Int} {h : jH} : mm_Runs (mm_xt L xs) 1 252 ([jI p0].map jcv) (jaH h) (.inl (some (jcv (jI (jd_252 p0))), jaH h)) := by
  refine ey_run0 _ mt_252 (jsl_s rfl) ?_
  refine ey_iload_n (cd_252 rfl) rfl ?_
  refine ey_iconst (cd_252 rfl) ?_
  by_cases q1 : 4 ≤ (jw p0)
  · refine ey_cge (cd_252 rfl) rfl rfl (show jw 4 = 4 from by decide) q1 ?_
    refine ey_iload_n (cd_252 rfl) rfl ?_
    refine ey_iconst (cd_252 rfl) ?_
    refine ey_isub (cd_252 rfl) ?_
    rw [show (jd_252 p0) = (p0 - 3) from by unfold jd_252; exact (if_pos q1)]
    exact ey_reti (cd_252 rfl) mt_252 rfl
  · refine ey_nge (cd_252 rfl) rfl rfl (show jw 4 = 4 from by decide) q1 ?_
    refine ey_iconst (cd_252 rfl) ?_
    refine ey_goto (cd_252 rfl) rfl ?_
    rw [show (jd_252 p0) = 0 from by unfold jd_252; exact (if_neg q1)]
    exact ey_reti (cd_252 rfl) mt_252 rfl
theorem cd_253 {pc : Nat} {i : Instr × Nat} (h : mm_lk mm_c253 pc = some i) : mm_cd 253 pc = some i := h
theorem mt_253 : mm_MT 253 = (12, 3, some .int, 3, 1, []) := rfl
set_option maxRecDepth 100000 in
theorem ok_253 {L : Nat} {xs : Nat → Int32} {p0 : Int} {p1 : Int} {p2 : Int} {h : jH} : mm_Runs (mm_xt L xs) 2 253 ([jI p0, jI p1, jI p2].map jcv) (jaH h) (.inl (some (jcv (jI (jd_253 p0 p1 p2))), jaH h)) := by
  refine ey_run0 _ mt_253 (jsl_s rfl) ?_
  refine ey_iload_n (cd_253 rfl) rfl ?_
  refine ey_iconst (cd_253 rfl) ?_
  by_cases q1 : (jw p0) < 4
  · refine ey_clt (cd_253 rfl) rfl rfl (show jw 4 = 4 from by decide) q1 ?_
    refine ey_bipush (cd_253 rfl) (by decide) ?_
    refine ey_iconst (cd_253 rfl) ?_
    refine ey_iload_n (cd_253 rfl) rfl ?_
    refine ey_iconst (cd_253 rfl) ?_
    refine ey_ishr (cd_253 rfl) ?_
    refine ey_imul (cd_253 rfl) ?_
    refine ey_iload_n (cd_253 rfl) rfl ?_
    refine ey_iadd (cd_253 rfl) ?_
    refine ey_imul (cd_253 rfl) ?_
    refine ey_iconst (cd_253 rfl) ?_
    refine ey_iload_n (cd_253 rfl) rfl ?_
    refine ey_iconst (cd_253 rfl) ?_
    refine ey_iand (cd_253 rfl) ?_
    refine ey_imul (cd_253 rfl) ?_
    refine ey_iadd (cd_253 rfl) ?_
    refine ey_iload_n (cd_253 rfl) rfl ?_
    refine ey_iadd (cd_253 rfl) ?_
    rw [show (jd_253 p0 p1 p2) = (((8 * ((4 * (jshr p0 1)) + p2)) + (4 * (jand p0 1))) + p1) from by unfold jd_253; exact (if_pos q1)]
    exact ey_reti (cd_253 rfl) mt_253 rfl
  · refine ey_nlt (cd_253 rfl) rfl rfl (show jw 4 = 4 from by decide) q1 ?_
    refine ey_iload_n (cd_253 rfl) rfl ?_
    refine ey_iconst (cd_253 rfl) ?_
    refine ey_isub (cd_253 rfl) ?_
    refine ey_cs (s0 := [jI (p0 - 3)]) (s1 := []) (st' := [jI (jd_244 (p0 - 3))]) (cd_253 rfl) mt_253 mt_244 rfl (by decide) rfl rfl (jsml_s rfl) rfl (ok_244 ) ?_
    refine ey_iconst (cd_253 rfl) ?_
    refine ey_iload_n (cd_253 rfl) rfl ?_
    refine ey_imul (cd_253 rfl) ?_
    refine ey_iadd (cd_253 rfl) ?_
    refine ey_iload_n (cd_253 rfl) rfl ?_
    refine ey_iadd (cd_253 rfl) ?_
    rw [show (jd_253 p0 p1 p2) = (((jd_244 (p0 - 3)) + (4 * p2)) + p1) from by unfold jd_253; exact (if_neg q1)]
    exact ey_reti (cd_253 rfl) mt_253 rfl
theorem cd_254 {pc : Nat} {i : Instr × Nat} (h : mm_lk mm_c254 pc = some i) : mm_cd 254 pc = some i := h
theorem mt_254 : mm_MT 254 = (12, 1, some .int, 1, 1, []) := rfl
set_option maxRecDepth 100000 in
theorem ok_254 {L : Nat} {xs : Nat → Int32} {p0 : Int} {h : jH} : mm_Runs (mm_xt L xs) 1 254 ([jI p0].map jcv) (jaH h) (.inl (some (jcv (jI (jd_254 p0))), jaH h)) := by
  refine ey_run0 _ mt_254 (jsl_s rfl) ?_
  refine ey_iload_n (cd_254 rfl) rfl ?_
  by_cases q1 : (jw p0) = 0
  · refine ey_tsw (cd_254 rfl) q1 (by decide) rfl rfl ?_
    refine ey_iconst (cd_254 rfl) ?_
    rw [show (jd_254 p0) = 0 from by unfold jd_254; exact (if_pos q1)]
    exact ey_reti (cd_254 rfl) mt_254 rfl
  · by_cases q2 : (jw p0) = 1
    · refine ey_tsw (cd_254 rfl) q2 (by decide) rfl rfl ?_
      refine ey_iconst (cd_254 rfl) ?_
      rw [show (jd_254 p0) = 1 from by unfold jd_254; exact ((if_neg q1).trans (if_pos q2))]
      exact ey_reti (cd_254 rfl) mt_254 rfl
    · by_cases q3 : (jw p0) = 2
      · refine ey_tsw (cd_254 rfl) q3 (by decide) rfl rfl ?_
        refine ey_iconst (cd_254 rfl) ?_
        rw [show (jd_254 p0) = 4 from by unfold jd_254; exact ((if_neg q1).trans ((if_neg q2).trans (if_pos q3)))]
        exact ey_reti (cd_254 rfl) mt_254 rfl
      · by_cases q4 : (jw p0) = 3
        · refine ey_tsw (cd_254 rfl) q4 (by decide) rfl rfl ?_
          refine ey_bipush (cd_254 rfl) (by decide) ?_
          rw [show (jd_254 p0) = 8 from by unfold jd_254; exact ((if_neg q1).trans ((if_neg q2).trans ((if_neg q3).trans (if_pos q4))))]
          exact ey_reti (cd_254 rfl) mt_254 rfl
        · by_cases q5 : (jw p0) = 4
          · refine ey_tsw (cd_254 rfl) q5 (by decide) rfl rfl ?_
            refine ey_iconst (cd_254 rfl) ?_
            rw [show (jd_254 p0) = 5 from by unfold jd_254; exact ((if_neg q1).trans ((if_neg q2).trans ((if_neg q3).trans ((if_neg q4).trans (if_pos q5)))))]
            exact ey_reti (cd_254 rfl) mt_254 rfl
          · by_cases q6 : (jw p0) = 5
            · refine ey_tsw (cd_254 rfl) q6 (by decide) rfl rfl ?_
              refine ey_iconst (cd_254 rfl) ?_
              rw [show (jd_254 p0) = 2 from by unfold jd_254; exact ((if_neg q1).trans ((if_neg q2).trans ((if_neg q3).trans ((if_neg q4).trans ((if_neg q5).trans (if_pos q6))))))]
              exact ey_reti (cd_254 rfl) mt_254 rfl
            · by_cases q7 : (jw p0) = 6
              · refine ey_tsw (cd_254 rfl) q7 (by decide) rfl rfl ?_
                refine ey_iconst (cd_254 rfl) ?_
                rw [show (jd_254 p0) = 3 from by unfold jd_254; exact ((if_neg q1).trans ((if_neg q2).trans ((if_neg q3).trans ((if_neg q4).trans ((if_neg q5).trans ((if_neg q6).trans (if_pos q7)))))))]
                exact ey_reti (cd_254 rfl) mt_254 rfl
              · by_cases q8 : (jw p0) = 7
                · refine ey_tsw (cd_254 rfl) q8 (by decide) rfl rfl ?_
                  refine ey_bipush (cd_254 rfl) (by decide) ?_
                  rw [show (jd_254 p0) = 6 from by unfold jd_254; exact ((if_neg q1).trans ((if_neg q2).trans ((if_neg q3).trans ((if_neg q4).trans ((if_neg q5).trans ((if_neg q6).trans ((if_neg q7).trans (if_pos q8))))))))]
                  exact ey_reti (cd_254 rfl) mt_254 rfl
                · by_cases q9 : (jw p0) = 8
                  · refine ey_tsw (cd_254 rfl) q9 (by decide) rfl rfl ?_
                    refine ey_bipush (cd_254 rfl) (by decide) ?_
                    rw [show (jd_254 p0) = 9 from by unfold jd_254; exact ((if_neg q1).trans ((if_neg q2).trans ((if_neg q3).trans ((if_neg q4).trans ((if_neg q5).trans ((if_neg q6).trans ((if_neg q7).trans ((if_neg q8).trans (if_pos q9)))))))))]
                    exact ey_reti (cd_254 rfl) mt_254 rfl
                  · by_cases q10 : (jw p0) = 9
                    · refine ey_tsw (cd_254 rfl) q10 (by decide) rfl rfl ?_
                      refine ey_bipush (cd_254 rfl) (by decide) ?_
                      rw [show (jd_254 p0) = 12 from by unfold jd_254; exact ((if_neg q1).trans ((if_neg q2).trans ((if_neg q3).trans ((if_neg q4).trans ((if_neg q5).trans ((if_neg q6).trans ((if_neg q7).trans ((if_neg q8).trans ((if_neg q9).trans (if_pos q10))))))))))]
                      exact ey_reti (cd_254 rfl) mt_254 rfl
                    · by_cases q11 : (jw p0) = 10
                      · refine ey_tsw (cd_254 rfl) q11 (by decide) rfl rfl ?_
                        refine ey_bipush (cd_254 rfl) (by decide) ?_
                        rw [show (jd_254 p0) = 13 from by unfold jd_254; exact ((if_neg q1).trans ((if_neg q2).trans ((if_neg q3).trans ((if_neg q4).trans ((if_neg q5).trans ((if_neg q6).trans ((if_neg q7).trans ((if_neg q8).trans ((if_neg q9).trans ((if_neg q10).trans (if_pos q11)))))))))))]
                        exact ey_reti (cd_254 rfl) mt_254 rfl
                      · by_cases q12 : (jw p0) = 11
                        · refine ey_tsw (cd_254 rfl) q12 (by decide) rfl rfl ?_
                          refine ey_bipush (cd_254 rfl) (by decide) ?_
                          rw [show (jd_254 p0) = 10 from by unfold jd_254; exact ((if_neg q1).trans ((if_neg q2).trans ((if_neg q3).trans ((if_neg q4).trans ((if_neg q5).trans ((if_neg q6).trans ((if_neg q7).trans ((if_neg q8).trans ((if_neg q9).trans ((if_neg q10).trans ((if_neg q11).trans (if_pos q12))))))))))))]
                          exact ey_reti (cd_254 rfl) mt_254 rfl
                        · by_cases q13 : (jw p0) = 12
                          · refine ey_tsw (cd_254 rfl) q13 (by decide) rfl rfl ?_
                            refine ey_bipush (cd_254 rfl) (by decide) ?_
                            rw [show (jd_254 p0) = 7 from by unfold jd_254; exact ((if_neg q1).trans ((if_neg q2).trans ((if_neg q3).trans ((if_neg q4).trans ((if_neg q5).trans ((if_neg q6).trans ((if_neg q7).trans ((if_neg q8).trans ((if_neg q9).trans ((if_neg q10).trans ((if_neg q11).trans ((if_neg q12).trans (if_pos q13)))))))))))))]
                            exact ey_reti (cd_254 rfl) mt_254 rfl
                          · by_cases q14 : (jw p0) = 13
                            · refine ey_tsw (cd_254 rfl) q14 (by decide) rfl rfl ?_
                              refine ey_bipush (cd_254 rfl) (by decide) ?_
                              rw [show (jd_254 p0) = 11 from by unfold jd_254; exact ((if_neg q1).trans ((if_neg q2).trans ((if_neg q3).trans ((if_neg q4).trans ((if_neg q5).trans ((if_neg q6).trans ((if_neg q7).trans ((if_neg q8).trans ((if_neg q9).trans ((if_neg q10).trans ((if_neg q11).trans ((if_neg q12).trans ((if_neg q13).trans (if_pos q14))))))))))))))]
                              exact ey_reti (cd_254 rfl) mt_254 rfl
                            · by_cases q15 : (jw p0) = 14
                              · refine ey_tsw (cd_254 rfl) q15 (by decide) rfl rfl ?_
                                refine ey_bipush (cd_254 rfl) (by decide) ?_
                                rw [show (jd_254 p0) = 14 from by unfold jd_254; exact ((if_neg q1).trans ((if_neg q2).trans ((if_neg q3).trans ((if_neg q4).trans ((if_neg q5).trans ((if_neg q6).trans ((if_neg q7).trans ((if_neg q8).trans ((if_neg q9).trans ((if_neg q10).trans ((if_neg q11).trans ((if_neg q12).trans ((if_neg q13).trans ((if_neg q14).trans (if_pos q15)))))))))))))))]
                                exact ey_reti (cd_254 rfl) mt_254 rfl
                              · refine ey_tsw_d (cd_254 rfl) (by omega) rfl ?_
                                refine ey_bipush (cd_254 rfl) (by decide) ?_
                                rw [show (jd_254 p0) = 15 from by unfold jd_254; exact ((if_neg q1).trans ((if_neg q2).trans ((if_neg q3).trans ((if_neg q4).trans ((if_neg q5).trans ((if_neg q6).trans ((if_neg q7).trans ((if_neg q8).trans ((if_neg q9).trans ((if_neg q10).trans ((if_neg q11).trans ((if_neg q12).trans ((if_neg q13).trans ((if_neg q14).trans (if_neg q15)))))))))))))))]
                                exact ey_reti (cd_254 rfl) mt_254 rfl
theorem cd_255 {pc : Nat} {i : Instr × Nat} (h : mm_lk mm_c255 pc = some i) : mm_cd 255 pc = some i := h
theorem mt_255 : mm_MT 255 = (12, 2, some .int, 2, 1, []) := rfl
set_option maxRecDepth 100000 in
theorem ok_255 {L : Nat} {xs : Nat → Int32} {p0 : Int} {p1 : Int} {h : jH} : mm_Runs (mm_xt L xs) 1 255 ([jI p0, jI p1].map jcv) (jaH h) (.inl (some (jcv (jI (jd_255 p0 p1))), jaH h)) := by
  refine ey_run0 _ mt_255 (jsl_s rfl) ?_
  refine ey_iload_n (cd_255 rfl) rfl ?_
  by_cases q1 : (jw p0) = 0
  · refine ey_zeq (cd_255 rfl) rfl rfl q1 ?_
    refine ey_iconst (cd_255 rfl) ?_
    rw [show (jd_255 p0 p1) = 1 from by unfold jd_255; exact (if_pos q1)]
    exact ey_reti (cd_255 rfl) mt_255 rfl
  · refine ey_yeq (cd_255 rfl) rfl rfl q1 ?_
    refine ey_iload_n (cd_255 rfl) rfl ?_
    by_cases q2 : (jw p1) = 0
    · refine ey_yne (cd_255 rfl) rfl rfl (fun w => w q2) ?_
      refine ey_iconst (cd_255 rfl) ?_
      rw [show (jd_255 p0 p1) = 1 from by unfold jd_255; exact ((if_neg q1).trans (if_pos q2))]
      exact ey_reti (cd_255 rfl) mt_255 rfl
    · refine ey_zne (cd_255 rfl) rfl rfl q2 ?_
      refine ey_iload_n (cd_255 rfl) rfl ?_
      refine ey_iconst (cd_255 rfl) ?_
      by_cases q3 : (jw p0) = 1
      · refine ey_nne (cd_255 rfl) rfl rfl (show jw 1 = 1 from by decide) (fun w => w q3) ?_
        refine ey_iload_n (cd_255 rfl) rfl ?_
        refine ey_iconst (cd_255 rfl) ?_
        by_cases q4 : (jw p1) = 1
        · refine ey_nne (cd_255 rfl) rfl rfl (show jw 1 = 1 from by decide) (fun w => w q4) ?_
          refine ey_iconst (cd_255 rfl) ?_
          refine ey_goto (cd_255 rfl) rfl ?_
          rw [show (jd_255 p0 p1) = 1 from by unfold jd_255; exact ((if_neg q1).trans ((if_neg q2).trans ((if_pos q3).trans (if_pos q4))))]
          exact ey_reti (cd_255 rfl) mt_255 rfl
        · refine ey_cne (cd_255 rfl) rfl rfl (show jw 1 = 1 from by decide) q4 ?_
          refine ey_iconst (cd_255 rfl) ?_
          rw [show (jd_255 p0 p1) = (-1) from by unfold jd_255; exact ((if_neg q1).trans ((if_neg q2).trans ((if_pos q3).trans (if_neg q4))))]
          exact ey_reti (cd_255 rfl) mt_255 rfl
      · refine ey_cne (cd_255 rfl) rfl rfl (show jw 1 = 1 from by decide) q3 ?_
        refine ey_iload_n (cd_255 rfl) rfl ?_
        refine ey_iconst (cd_255 rfl) ?_
        by_cases q5 : (jw p0) = 2
        · refine ey_nne (cd_255 rfl) rfl rfl (show jw 2 = 2 from by decide) (fun w => w q5) ?_
          refine ey_iload_n (cd_255 rfl) rfl ?_
          refine ey_iconst (cd_255 rfl) ?_
          by_cases q6 : (jw p1) = 3
          · refine ey_nne (cd_255 rfl) rfl rfl (show jw 3 = 3 from by decide) (fun w => w q6) ?_
            refine ey_iconst (cd_255 rfl) ?_
            refine ey_goto (cd_255 rfl) rfl ?_
            rw [show (jd_255 p0 p1) = 1 from by unfold jd_255; exact ((if_neg q1).trans ((if_neg q2).trans ((if_neg q3).trans ((if_pos q5).trans (if_pos q6)))))]
            exact ey_reti (cd_255 rfl) mt_255 rfl
          · refine ey_cne (cd_255 rfl) rfl rfl (show jw 3 = 3 from by decide) q6 ?_
            refine ey_iconst (cd_255 rfl) ?_
            rw [show (jd_255 p0 p1) = (-1) from by unfold jd_255; exact ((if_neg q1).trans ((if_neg q2).trans ((if_neg q3).trans ((if_pos q5).trans (if_neg q6)))))]
            exact ey_reti (cd_255 rfl) mt_255 rfl
        · refine ey_cne (cd_255 rfl) rfl rfl (show jw 2 = 2 from by decide) q5 ?_
          refine ey_iload_n (cd_255 rfl) rfl ?_
          refine ey_iconst (cd_255 rfl) ?_
          by_cases q7 : (jw p1) = 2
          · refine ey_nne (cd_255 rfl) rfl rfl (show jw 2 = 2 from by decide) (fun w => w q7) ?_
            refine ey_iconst (cd_255 rfl) ?_
            refine ey_goto (cd_255 rfl) rfl ?_
            rw [show (jd_255 p0 p1) = 1 from by unfold jd_255; exact ((if_neg q1).trans ((if_neg q2).trans ((if_neg q3).trans ((if_neg q5).trans (if_pos q7)))))]
            exact ey_reti (cd_255 rfl) mt_255 rfl
          · refine ey_cne (cd_255 rfl) rfl rfl (show jw 2 = 2 from by decide) q7 ?_
            refine ey_iconst (cd_255 rfl) ?_
            rw [show (jd_255 p0 p1) = (-1) from by unfold jd_255; exact ((if_neg q1).trans ((if_neg q2).trans ((if_neg q3).trans ((if_neg q5).trans (if_neg q7)))))]
            exact ey_reti (cd_255 rfl) mt_255 rfl
theorem cd_256 {pc : Nat} {i : Instr × Nat} (h : mm_lk mm_c256 pc = some i) : mm_cd 256 pc = some i := h
theorem mt_256 : mm_MT 256 = (12, 5, none, 0, 0, []) := rfl
set_option maxRecDepth 100000 in
theorem jk_256_s19 {L : Nat} {xs : Nat → Int32} {b : jH} (hb : 152 ≤ b.1) (h6 : b.1 ≤ 1000000) {x1 : Int} {x2 : Int} {x3 : Int} {x4 : Int} {m : jM} {o : ((Int × Int) ⊕ Int)} {r : mm_R} (e : jd_256_s19 x1 x2 x3 x4 m = some o) (K : jsm (fun s => (∀ lv : jL, lv 0 = some (jR (some 76)) → lv 1 = some (jI x1) → lv 2 = some (jI x2) → lv 3 = some (jI s.1) → lv 4 = some (jI s.2) → ey (mm_xt L xs) 1 256 19 lv [] (jhm b m) r)) (fun x => (∀ lv : jL, lv 0 = some (jR (some 76)) → lv 1 = some (jI x1) → lv 2 = some (jI x2) → lv 3 = some (jI x) → ey (mm_xt L xs) 1 256 52 lv [] (jhm b m) r)) o) : ∀ lv : jL, lv 0 = some (jR (some 76)) → lv 1 = some (jI x1) → lv 2 = some (jI x2) → lv 3 = some (jI x3) → lv 4 = some (jI x4) → ey (mm_xt L xs) 1 256 19 lv [] (jhm b m) r := by
  intro lv f0 f1 f2 f3 f4
  unfold jd_256_s19 at e
  refine ey_iload (cd_256 rfl) f4 ?_
  refine ey_iconst (cd_256 rfl) ?_
  by_cases q3 : 4 ≤ (jw x4)
  · rw [if_pos q3] at e
    refine ey_cge (cd_256 rfl) rfl rfl (show jw 4 = 4 from by decide) q3 ?_
    cases e
    exact K lv f0 f1 f2 f3
  · rw [if_neg q3] at e
    refine ey_nge (cd_256 rfl) rfl rfl (show jw 4 = 4 from by decide) q3 ?_
    refine ey_iload_n (cd_256 rfl) f3 ?_
    refine ey_iload_n (cd_256 rfl) f1 ?_
    refine ey_iload (cd_256 rfl) f4 ?_
    refine ey_cs (s0 := [jI x4, jI x1, jI x3]) (s1 := [jI x3]) (st' := [jI (jd_255 x1 x4), jI x3]) (cd_256 rfl) mt_256 mt_255 rfl (by decide) rfl rfl (jsml_s rfl) rfl (ok_255 ) ?_
    refine ey_aload_n (cd_256 rfl) f0 ?_
    refine ey_getf_r (cd_256 rfl) mt_256 rfl rfl rfl (jhm_gr (q := 116) hb rfl) ?_
    refine ey_iconst (cd_256 rfl) ?_
    refine ey_iload (cd_256 rfl) f4 ?_
    refine ey_imul (cd_256 rfl) ?_
    refine ey_iload_n (cd_256 rfl) f2 ?_
    refine ey_iadd (cd_256 rfl) ?_
    obtain ⟨v4, e5, e⟩ := jbind e
    refine ey_iald (cd_256 rfl) (jhm_ai hb h6 (by decide) rfl e5) ?_
    refine ey_imul (cd_256 rfl) ?_
    refine ey_iadd (cd_256 rfl) ?_
    refine ey_istore_n (cd_256 rfl) mt_256 rfl ?_
    refine ey_iinc (cd_256 rfl) mt_256 rfl f4 ?_
    refine ey_goto (cd_256 rfl) rfl ?_
    cases e
    exact K (jup (jup lv 3 (jI (x3 + ((jd_255 x1 x4) * v4)))) 4 (jI (x4 + 1))) f0 f1 (jup_o rfl (jup_pi (lv := lv) (j := 2) (v := jI (x3 + ((jd_255 x1 x4) * v4))) (z := x2) f2)) (jup_pi (lv := (jup lv 3 (jI (x3 + ((jd_255 x1 x4) * v4))))) (j := 3) (v := jI (x4 + 1)) (z := (x3 + ((jd_255 x1 x4) * v4))) rfl) rfl
theorem jk_256_l19 {L : Nat} {xs : Nat → Int32} {b : jH} (hb : 152 ≤ b.1) (h6 : b.1 ≤ 1000000) {x1 : Int} {x2 : Int} {x3 : Int} {x4 : Int} {m : jM} {x : Int} {r : mm_R} (e : jd_256_l19 x1 x2 x3 x4 m = some x) (K : (∀ lv : jL, lv 0 = some (jR (some 76)) → lv 1 = some (jI x1) → lv 2 = some (jI x2) → lv 3 = some (jI x) → ey (mm_xt L xs) 1 256 52 lv [] (jhm b m) r)) : ∀ lv : jL, lv 0 = some (jR (some 76)) → lv 1 = some (jI x1) → lv 2 = some (jI x2) → lv 3 = some (jI x3) → lv 4 = some (jI x4) → ey (mm_xt L xs) 1 256 19 lv [] (jhm b m) r := by
  unfold jd_256_l19 at e
  exact jlp_ok2 (P := fun s => ∀ lv : jL, lv 0 = some (jR (some 76)) → lv 1 = some (jI x1) → lv 2 = some (jI x2) → lv 3 = some (jI s.1) → lv 4 = some (jI s.2) → ey (mm_xt L xs) 1 256 19 lv [] (jhm b m) r) (Q := fun x => (∀ lv : jL, lv 0 = some (jR (some 76)) → lv 1 = some (jI x1) → lv 2 = some (jI x2) → lv 3 = some (jI x) → ey (mm_xt L xs) 1 256 52 lv [] (jhm b m) r)) (fun s q hq hk => jk_256_s19 hb h6 hq hk) jfu _ x e K
set_option maxRecDepth 100000 in
theorem jk_256_s9 {L : Nat} {xs : Nat → Int32} {b : jH} (hb : 152 ≤ b.1) (h6 : b.1 ≤ 1000000) {x1 : Int} {x2 : Int} {m : jM} {o : ((Int × jM) ⊕ jM)} {r : mm_R} (e : jd_256_s9 x1 x2 m = some o) (K : jsm (fun s => (∀ lv : jL, lv 0 = some (jR (some 76)) → lv 1 = some (jI x1) → lv 2 = some (jI s.1) → ey (mm_xt L xs) 1 256 9 lv [] (jhm b s.2) r)) (fun x => (∀ lv : jL, lv 0 = some (jR (some 76)) → lv 1 = some (jI x1) → ey (mm_xt L xs) 1 256 69 lv [] (jhm b x) r)) o) : ∀ lv : jL, lv 0 = some (jR (some 76)) → lv 1 = some (jI x1) → lv 2 = some (jI x2) → ey (mm_xt L xs) 1 256 9 lv [] (jhm b m) r := by
  intro lv f0 f1 f2
  unfold jd_256_s9 at e
  refine ey_iload_n (cd_256 rfl) f2 ?_
  refine ey_iconst (cd_256 rfl) ?_
  by_cases q2 : 4 ≤ (jw x2)
  · rw [if_pos q2] at e
    refine ey_cge (cd_256 rfl) rfl rfl (show jw 4 = 4 from by decide) q2 ?_
    cases e
    exact K lv f0 f1
  · rw [if_neg q2] at e
    refine ey_nge (cd_256 rfl) rfl rfl (show jw 4 = 4 from by decide) q2 ?_
    refine ey_iconst (cd_256 rfl) ?_
    refine ey_istore_n (cd_256 rfl) mt_256 rfl ?_
    refine ey_iconst (cd_256 rfl) ?_
    refine ey_istore (cd_256 rfl) mt_256 rfl ?_
    obtain ⟨x6, e7, e⟩ := jbind e
    refine jk_256_l19 hb h6 e7 ?_ (jup (jup lv 3 (jI 0)) 4 (jI 0)) f0 f1 (jup_o rfl (jup_pi (lv := lv) (j := 2) (v := jI 0) (z := x2) f2)) (jup_pi (lv := (jup lv 3 (jI 0))) (j := 3) (v := jI 0) (z := 0) rfl) rfl
    intro lv g0 g1 g2 g3
    refine ey_aload_n (cd_256 rfl) g0 ?_
    refine ey_getf_r (cd_256 rfl) mt_256 rfl rfl rfl (jhm_gr (q := 117) hb rfl) ?_
    refine ey_iconst (cd_256 rfl) ?_
    refine ey_iload_n (cd_256 rfl) g1 ?_
    refine ey_imul (cd_256 rfl) ?_
    refine ey_iload_n (cd_256 rfl) g2 ?_
    refine ey_iadd (cd_256 rfl) ?_
    refine ey_iload_n (cd_256 rfl) g3 ?_
    obtain ⟨m8, e9, e⟩ := jbind e
    refine ey_iast (cd_256 rfl) (jhm_ta hb (by decide) rfl e9) ?_
    refine ey_iinc (cd_256 rfl) mt_256 rfl g2 ?_
    refine ey_goto (cd_256 rfl) rfl ?_
    cases e
    exact K (jup lv 2 (jI (x2 + 1))) g0 (jup_pi (lv := lv) (j := 1) (v := jI (x2 + 1)) (z := x1) g1) rfl
theorem jk_256_l9 {L : Nat} {xs : Nat → Int32} {b : jH} (hb : 152 ≤ b.1) (h6 : b.1 ≤ 1000000) {x1 : Int} {x2 : Int} {m : jM} {x : jM} {r : mm_R} (e : jd_256_l9 x1 x2 m = some x) (K : (∀ lv : jL, lv 0 = some (jR (some 76)) → lv 1 = some (jI x1) → ey (mm_xt L xs) 1 256 69 lv [] (jhm b x) r)) : ∀ lv : jL, lv 0 = some (jR (some 76)) → lv 1 = some (jI x1) → lv 2 = some (jI x2) → ey (mm_xt L xs) 1 256 9 lv [] (jhm b m) r := by
  unfold jd_256_l9 at e
  exact jlp_ok2 (P := fun s => ∀ lv : jL, lv 0 = some (jR (some 76)) → lv 1 = some (jI x1) → lv 2 = some (jI s.1) → ey (mm_xt L xs) 1 256 9 lv [] (jhm b s.2) r) (Q := fun x => (∀ lv : jL, lv 0 = some (jR (some 76)) → lv 1 = some (jI x1) → ey (mm_xt L xs) 1 256 69 lv [] (jhm b x) r)) (fun s q hq hk => jk_256_s9 hb h6 hq hk) jfu _ x e K
set_option maxRecDepth 100000 in
theorem jk_256_s2 {L : Nat} {xs : Nat → Int32} {b : jH} (hb : 152 ≤ b.1) (h6 : b.1 ≤ 1000000) {x1 : Int} {m : jM} {o : ((Int × jM) ⊕ jM)} {r : mm_R} (e : jd_256_s2 x1 m = some o) (K : jsm (fun s => (∀ lv : jL, lv 0 = some (jR (some 76)) → lv 1 = some (jI s.1) → ey (mm_xt L xs) 1 256 2 lv [] (jhm b s.2) r)) (fun x => (∀ lv : jL, lv 0 = some (jR (some 76)) → ey (mm_xt L xs) 1 256 75 lv [] (jhm b x) r)) o) : ∀ lv : jL, lv 0 = some (jR (some 76)) → lv 1 = some (jI x1) → ey (mm_xt L xs) 1 256 2 lv [] (jhm b m) r := by
  intro lv f0 f1
  unfold jd_256_s2 at e
  refine ey_iload_n (cd_256 rfl) f1 ?_
  refine ey_iconst (cd_256 rfl) ?_
  by_cases q1 : 4 ≤ (jw x1)
  · rw [if_pos q1] at e
    refine ey_cge (cd_256 rfl) rfl rfl (show jw 4 = 4 from by decide) q1 ?_
    cases e
    exact K lv f0
  · rw [if_neg q1] at e
    refine ey_nge (cd_256 rfl) rfl rfl (show jw 4 = 4 from by decide) q1 ?_
    refine ey_iconst (cd_256 rfl) ?_
    refine ey_istore_n (cd_256 rfl) mt_256 rfl ?_
    obtain ⟨x10, e11, e⟩ := jbind e
    refine jk_256_l9 hb h6 e11 ?_ (jup lv 2 (jI 0)) f0 (jup_pi (lv := lv) (j := 1) (v := jI 0) (z := x1) f1) rfl
    intro lv g0 g1
    refine ey_iinc (cd_256 rfl) mt_256 rfl g1 ?_
    refine ey_goto (cd_256 rfl) rfl ?_
    cases e
    exact K (jup lv 1 (jI (x1 + 1))) (jup_pr (lv := lv) (j := 0) (v := jI (x1 + 1)) (z := (some 76)) g0) rfl
theorem jk_256_l2 {L : Nat} {xs : Nat → Int32} {b : jH} (hb : 152 ≤ b.1) (h6 : b.1 ≤ 1000000) {x1 : Int} {m : jM} {x : jM} {r : mm_R} (e : jd_256_l2 x1 m = some x) (K : (∀ lv : jL, lv 0 = some (jR (some 76)) → ey (mm_xt L xs) 1 256 75 lv [] (jhm b x) r)) : ∀ lv : jL, lv 0 = some (jR (some 76)) → lv 1 = some (jI x1) → ey (mm_xt L xs) 1 256 2 lv [] (jhm b m) r := by
  unfold jd_256_l2 at e
  exact jlp_ok2 (P := fun s => ∀ lv : jL, lv 0 = some (jR (some 76)) → lv 1 = some (jI s.1) → ey (mm_xt L xs) 1 256 2 lv [] (jhm b s.2) r) (Q := fun x => (∀ lv : jL, lv 0 = some (jR (some 76)) → ey (mm_xt L xs) 1 256 75 lv [] (jhm b x) r)) (fun s q hq hk => jk_256_s2 hb h6 hq hk) jfu _ x e K
set_option maxRecDepth 100000 in
theorem jk_256_s94 {L : Nat} {xs : Nat → Int32} {b : jH} (hb : 152 ≤ b.1) (h6 : b.1 ≤ 1000000) {x1 : Int} {x2 : Int} {x3 : Int} {x4 : Int} {m : jM} {o : ((Int × Int) ⊕ Int)} {r : mm_R} (e : jd_256_s94 x1 x2 x3 x4 m = some o) (K : jsm (fun s => (∀ lv : jL, lv 0 = some (jR (some 76)) → lv 1 = some (jI x1) → lv 2 = some (jI x2) → lv 3 = some (jI s.1) → lv 4 = some (jI s.2) → ey (mm_xt L xs) 1 256 94 lv [] (jhm b m) r)) (fun x => (∀ lv : jL, lv 0 = some (jR (some 76)) → lv 1 = some (jI x1) → lv 2 = some (jI x2) → lv 3 = some (jI x) → ey (mm_xt L xs) 1 256 127 lv [] (jhm b m) r)) o) : ∀ lv : jL, lv 0 = some (jR (some 76)) → lv 1 = some (jI x1) → lv 2 = some (jI x2) → lv 3 = some (jI x3) → lv 4 = some (jI x4) → ey (mm_xt L xs) 1 256 94 lv [] (jhm b m) r := by
  intro lv f0 f1 f2 f3 f4
  unfold jd_256_s94 at e
  refine ey_iload (cd_256 rfl) f4 ?_
  refine ey_iconst (cd_256 rfl) ?_
  by_cases q16 : 4 ≤ (jw x4)
  · rw [if_pos q16] at e
    refine ey_cge (cd_256 rfl) rfl rfl (show jw 4 = 4 from by decide) q16 ?_
    cases e
    exact K lv f0 f1 f2 f3
  · rw [if_neg q16] at e
    refine ey_nge (cd_256 rfl) rfl rfl (show jw 4 = 4 from by decide) q16 ?_
    refine ey_iload_n (cd_256 rfl) f3 ?_
    refine ey_aload_n (cd_256 rfl) f0 ?_
    refine ey_getf_r (cd_256 rfl) mt_256 rfl rfl rfl (jhm_gr (q := 117) hb rfl) ?_
    refine ey_iconst (cd_256 rfl) ?_
    refine ey_iload_n (cd_256 rfl) f1 ?_
    refine ey_imul (cd_256 rfl) ?_
    refine ey_iload (cd_256 rfl) f4 ?_
    refine ey_iadd (cd_256 rfl) ?_
    obtain ⟨v17, e18, e⟩ := jbind e
    refine ey_iald (cd_256 rfl) (jhm_ai hb h6 (by decide) rfl e18) ?_
    refine ey_iload (cd_256 rfl) f4 ?_
    refine ey_iload_n (cd_256 rfl) f2 ?_
    refine ey_cs (s0 := [jI x2, jI x4, jI v17, jI x3]) (s1 := [jI v17, jI x3]) (st' := [jI (jd_255 x4 x2), jI v17, jI x3]) (cd_256 rfl) mt_256 mt_255 rfl (by decide) rfl rfl (jsml_s rfl) rfl (ok_255 ) ?_
    refine ey_imul (cd_256 rfl) ?_
    refine ey_iadd (cd_256 rfl) ?_
    refine ey_istore_n (cd_256 rfl) mt_256 rfl ?_
    refine ey_iinc (cd_256 rfl) mt_256 rfl f4 ?_
    refine ey_goto (cd_256 rfl) rfl ?_
    cases e
    exact K (jup (jup lv 3 (jI (x3 + (v17 * (jd_255 x4 x2))))) 4 (jI (x4 + 1))) f0 f1 (jup_o rfl (jup_pi (lv := lv) (j := 2) (v := jI (x3 + (v17 * (jd_255 x4 x2)))) (z := x2) f2)) (jup_pi (lv := (jup lv 3 (jI (x3 + (v17 * (jd_255 x4 x2)))))) (j := 3) (v := jI (x4 + 1)) (z := (x3 + (v17 * (jd_255 x4 x2)))) rfl) rfl
theorem jk_256_l94 {L : Nat} {xs : Nat → Int32} {b : jH} (hb : 152 ≤ b.1) (h6 : b.1 ≤ 1000000) {x1 : Int} {x2 : Int} {x3 : Int} {x4 : Int} {m : jM} {x : Int} {r : mm_R} (e : jd_256_l94 x1 x2 x3 x4 m = some x) (K : (∀ lv : jL, lv 0 = some (jR (some 76)) → lv 1 = some (jI x1) → lv 2 = some (jI x2) → lv 3 = some (jI x) → ey (mm_xt L xs) 1 256 127 lv [] (jhm b m) r)) : ∀ lv : jL, lv 0 = some (jR (some 76)) → lv 1 = some (jI x1) → lv 2 = some (jI x2) → lv 3 = some (jI x3) → lv 4 = some (jI x4) → ey (mm_xt L xs) 1 256 94 lv [] (jhm b m) r := by
  unfold jd_256_l94 at e
  exact jlp_ok2 (P := fun s => ∀ lv : jL, lv 0 = some (jR (some 76)) → lv 1 = some (jI x1) → lv 2 = some (jI x2) → lv 3 = some (jI s.1) → lv 4 = some (jI s.2) → ey (mm_xt L xs) 1 256 94 lv [] (jhm b m) r) (Q := fun x => (∀ lv : jL, lv 0 = some (jR (some 76)) → lv 1 = some (jI x1) → lv 2 = some (jI x2) → lv 3 = some (jI x) → ey (mm_xt L xs) 1 256 127 lv [] (jhm b m) r)) (fun s q hq hk => jk_256_s94 hb h6 hq hk) jfu _ x e K
set_option maxRecDepth 100000 in
theorem jk_256_s84 {L : Nat} {xs : Nat → Int32} {b : jH} (hb : 152 ≤ b.1) (h6 : b.1 ≤ 1000000) {x1 : Int} {x2 : Int} {m : jM} {o : ((Int × jM) ⊕ jM)} {r : mm_R} (e : jd_256_s84 x1 x2 m = some o) (K : jsm (fun s => (∀ lv : jL, lv 0 = some (jR (some 76)) → lv 1 = some (jI x1) → lv 2 = some (jI s.1) → ey (mm_xt L xs) 1 256 84 lv [] (jhm b s.2) r)) (fun x => (∀ lv : jL, lv 0 = some (jR (some 76)) → lv 1 = some (jI x1) → ey (mm_xt L xs) 1 256 144 lv [] (jhm b x) r)) o) : ∀ lv : jL, lv 0 = some (jR (some 76)) → lv 1 = some (jI x1) → lv 2 = some (jI x2) → ey (mm_xt L xs) 1 256 84 lv [] (jhm b m) r := by
  intro lv f0 f1 f2
  unfold jd_256_s84 at e
  refine ey_iload_n (cd_256 rfl) f2 ?_
  refine ey_iconst (cd_256 rfl) ?_
  by_cases q15 : 4 ≤ (jw x2)
  · rw [if_pos q15] at e
    refine ey_cge (cd_256 rfl) rfl rfl (show jw 4 = 4 from by decide) q15 ?_
    cases e
    exact K lv f0 f1
  · rw [if_neg q15] at e
    refine ey_nge (cd_256 rfl) rfl rfl (show jw 4 = 4 from by decide) q15 ?_
    refine ey_iconst (cd_256 rfl) ?_
    refine ey_istore_n (cd_256 rfl) mt_256 rfl ?_
    refine ey_iconst (cd_256 rfl) ?_
    refine ey_istore (cd_256 rfl) mt_256 rfl ?_
    obtain ⟨x19, e20, e⟩ := jbind e
    refine jk_256_l94 hb h6 e20 ?_ (jup (jup lv 3 (jI 0)) 4 (jI 0)) f0 f1 (jup_o rfl (jup_pi (lv := lv) (j := 2) (v := jI 0) (z := x2) f2)) (jup_pi (lv := (jup lv 3 (jI 0))) (j := 3) (v := jI 0) (z := 0) rfl) rfl
    intro lv g0 g1 g2 g3
    refine ey_aload_n (cd_256 rfl) g0 ?_
    refine ey_getf_r (cd_256 rfl) mt_256 rfl rfl rfl (jhm_gr (q := 116) hb rfl) ?_
    refine ey_iconst (cd_256 rfl) ?_
    refine ey_iload_n (cd_256 rfl) g1 ?_
    refine ey_imul (cd_256 rfl) ?_
    refine ey_iload_n (cd_256 rfl) g2 ?_
    refine ey_iadd (cd_256 rfl) ?_
    refine ey_iload_n (cd_256 rfl) g3 ?_
    obtain ⟨m21, e22, e⟩ := jbind e
    refine ey_iast (cd_256 rfl) (jhm_ta hb (by decide) rfl e22) ?_
    refine ey_iinc (cd_256 rfl) mt_256 rfl g2 ?_
    refine ey_goto (cd_256 rfl) rfl ?_
    cases e
    exact K (jup lv 2 (jI (x2 + 1))) g0 (jup_pi (lv := lv) (j := 1) (v := jI (x2 + 1)) (z := x1) g1) rfl
theorem jk_256_l84 {L : Nat} {xs : Nat → Int32} {b : jH} (hb : 152 ≤ b.1) (h6 : b.1 ≤ 1000000) {x1 : Int} {x2 : Int} {m : jM} {x : jM} {r : mm_R} (e : jd_256_l84 x1 x2 m = some x) (K : (∀ lv : jL, lv 0 = some (jR (some 76)) → lv 1 = some (jI x1) → ey (mm_xt L xs) 1 256 144 lv [] (jhm b x) r)) : ∀ lv : jL, lv 0 = some (jR (some 76)) → lv 1 = some (jI x1) → lv 2 = some (jI x2) → ey (mm_xt L xs) 1 256 84 lv [] (jhm b m) r := by
  unfold jd_256_l84 at e
  exact jlp_ok2 (P := fun s => ∀ lv : jL, lv 0 = some (jR (some 76)) → lv 1 = some (jI x1) → lv 2 = some (jI s.1) → ey (mm_xt L xs) 1 256 84 lv [] (jhm b s.2) r) (Q := fun x => (∀ lv : jL, lv 0 = some (jR (some 76)) → lv 1 = some (jI x1) → ey (mm_xt L xs) 1 256 144 lv [] (jhm b x) r)) (fun s q hq hk => jk_256_s84 hb h6 hq hk) jfu _ x e K
set_option maxRecDepth 100000 in
theorem jk_256_s77 {L : Nat} {xs : Nat → Int32} {b : jH} (hb : 152 ≤ b.1) (h6 : b.1 ≤ 1000000) {x1 : Int} {m : jM} {o : ((Int × jM) ⊕ jM)} {r : mm_R} (e : jd_256_s77 x1 m = some o) (K : jsm (fun s => (∀ lv : jL, lv 0 = some (jR (some 76)) → lv 1 = some (jI s.1) → ey (mm_xt L xs) 1 256 77 lv [] (jhm b s.2) r)) (fun x => (∀ lv : jL, ey (mm_xt L xs) 1 256 150 lv [] (jhm b x) r)) o) : ∀ lv : jL, lv 0 = some (jR (some 76)) → lv 1 = some (jI x1) → ey (mm_xt L xs) 1 256 77 lv [] (jhm b m) r := by
  intro lv f0 f1
  unfold jd_256_s77 at e
  refine ey_iload_n (cd_256 rfl) f1 ?_
  refine ey_iconst (cd_256 rfl) ?_
  by_cases q14 : 4 ≤ (jw x1)
  · rw [if_pos q14] at e
    refine ey_cge (cd_256 rfl) rfl rfl (show jw 4 = 4 from by decide) q14 ?_
    cases e
    exact K lv 
  · rw [if_neg q14] at e
    refine ey_nge (cd_256 rfl) rfl rfl (show jw 4 = 4 from by decide) q14 ?_
    refine ey_iconst (cd_256 rfl) ?_
    refine ey_istore_n (cd_256 rfl) mt_256 rfl ?_
    obtain ⟨x23, e24, e⟩ := jbind e
    refine jk_256_l84 hb h6 e24 ?_ (jup lv 2 (jI 0)) f0 (jup_pi (lv := lv) (j := 1) (v := jI 0) (z := x1) f1) rfl
    intro lv g0 g1
    refine ey_iinc (cd_256 rfl) mt_256 rfl g1 ?_
    refine ey_goto (cd_256 rfl) rfl ?_
    cases e
    exact K (jup lv 1 (jI (x1 + 1))) (jup_pr (lv := lv) (j := 0) (v := jI (x1 + 1)) (z := (some 76)) g0) rfl
theorem jk_256_l77 {L : Nat} {xs : Nat → Int32} {b : jH} (hb : 152 ≤ b.1) (h6 : b.1 ≤ 1000000) {x1 : Int} {m : jM} {x : jM} {r : mm_R} (e : jd_256_l77 x1 m = some x) (K : (∀ lv : jL, ey (mm_xt L xs) 1 256 150 lv [] (jhm b x) r)) : ∀ lv : jL, lv 0 = some (jR (some 76)) → lv 1 = some (jI x1) → ey (mm_xt L xs) 1 256 77 lv [] (jhm b m) r := by
  unfold jd_256_l77 at e
  exact jlp_ok2 (P := fun s => ∀ lv : jL, lv 0 = some (jR (some 76)) → lv 1 = some (jI s.1) → ey (mm_xt L xs) 1 256 77 lv [] (jhm b s.2) r) (Q := fun x => (∀ lv : jL, ey (mm_xt L xs) 1 256 150 lv [] (jhm b x) r)) (fun s q hq hk => jk_256_s77 hb h6 hq hk) jfu _ x e K
set_option maxRecDepth 100000 in
theorem ok_256 {L : Nat} {xs : Nat → Int32} {b : jH} (hb : 152 ≤ b.1) (h6 : b.1 ≤ 1000000)  {m : jM} {o : jM} (e : jd_256  m = some o) : mm_Runs (mm_xt L xs) 2 256 ([jR (some 76)].map jcv) (jaH (jhm b m)) (.inl (none, jaH (jhm b o))) := by
  refine ey_run0 _ mt_256 (jsl_s rfl) ?_
  unfold jd_256 at e
  refine ey_iconst (cd_256 rfl) ?_
  refine ey_istore_n (cd_256 rfl) mt_256 rfl ?_
  obtain ⟨x12, e13, e⟩ := jbind e
  refine jk_256_l2 hb h6 e13 ?_ (jup (jlf (jla 0 [jR (some 76)])) 1 (jI 0)) (jup_pr (lv := (jlf (jla 0 [jR (some 76)]))) (j := 0) (v := jI 0) (z := (some 76)) rfl) rfl
  intro lv g0
  refine ey_iconst (cd_256 rfl) ?_
  refine ey_istore_n (cd_256 rfl) mt_256 rfl ?_
  obtain ⟨x25, e26, e⟩ := jbind e
  refine jk_256_l77 hb h6 e26 ?_ (jup lv 1 (jI 0)) (jup_pr (lv := lv) (j := 0) (v := jI 0) (z := (some 76)) g0) rfl
  intro lv 
  cases e
  exact ey_retv (cd_256 rfl) mt_256 rfl
theorem cd_257 {pc : Nat} {i : Instr × Nat} (h : mm_lk mm_c257 pc = some i) : mm_cd 257 pc = some i := h
theorem mt_257 : mm_MT 257 = (12, 4, none, 2, 0, []) := rfl
set_option maxRecDepth 100000 in
theorem jk_257_s2 {L : Nat} {xs : Nat → Int32} {b : jH} (hb : 152 ≤ b.1) (h6 : b.1 ≤ 1000000) {x1 : Int} {x2 : Int} {x3 : Int} {m : jM} {o : ((Int × jM) ⊕ jM)} {r : mm_R} (e : jd_257_s2 x1 x2 x3 m = some o) (K : jsm (fun s => (∀ lv : jL, lv 0 = some (jR (some 76)) → lv 1 = some (jI x1) → lv 2 = some (jI x2) → lv 3 = some (jI s.1) → ey (mm_xt L xs) 2 257 2 lv [] (jhm b s.2) r)) (fun x => (∀ lv : jL, lv 0 = some (jR (some 76)) → lv 1 = some (jI x1) → ey (mm_xt L xs) 2 257 24 lv [] (jhm b x) r)) o) : ∀ lv : jL, lv 0 = some (jR (some 76)) → lv 1 = some (jI x1) → lv 2 = some (jI x2) → lv 3 = some (jI x3) → ey (mm_xt L xs) 2 257 2 lv [] (jhm b m) r := by
  intro lv f0 f1 f2 f3
  unfold jd_257_s2 at e
  refine ey_iload_n (cd_257 rfl) f3 ?_
  refine ey_bipush (cd_257 rfl) (by decide) ?_
  by_cases q1 : 16 ≤ (jw x3)
  · rw [if_pos q1] at e
    refine ey_cge (cd_257 rfl) rfl rfl (show jw 16 = 16 from by decide) q1 ?_
    cases e
    exact K lv f0 f1
  · rw [if_neg q1] at e
    refine ey_nge (cd_257 rfl) rfl rfl (show jw 16 = 16 from by decide) q1 ?_
    refine ey_aload_n (cd_257 rfl) f0 ?_
    refine ey_getf_r (cd_257 rfl) mt_257 rfl rfl rfl (jhm_gr (q := 116) hb rfl) ?_
    refine ey_iload_n (cd_257 rfl) f3 ?_
    refine ey_dup2 (cd_257 rfl) rfl rfl ?_
    obtain ⟨v2, e3, e⟩ := jbind e
    refine ey_iald (cd_257 rfl) (jhm_ai hb h6 (by decide) rfl e3) ?_
    refine ey_iload_n (cd_257 rfl) f2 ?_
    refine ey_imul (cd_257 rfl) ?_
    obtain ⟨m4, e5, e⟩ := jbind e
    refine ey_iast (cd_257 rfl) (jhm_ta hb (by decide) rfl e5) ?_
    refine ey_iinc (cd_257 rfl) mt_257 rfl f3 ?_
    refine ey_goto (cd_257 rfl) rfl ?_
    cases e
    exact K (jup lv 3 (jI (x3 + 1))) f0 f1 (jup_pi (lv := lv) (j := 2) (v := jI (x3 + 1)) (z := x2) f2) rfl
theorem jk_257_l2 {L : Nat} {xs : Nat → Int32} {b : jH} (hb : 152 ≤ b.1) (h6 : b.1 ≤ 1000000) {x1 : Int} {x2 : Int} {x3 : Int} {m : jM} {x : jM} {r : mm_R} (e : jd_257_l2 x1 x2 x3 m = some x) (K : (∀ lv : jL, lv 0 = some (jR (some 76)) → lv 1 = some (jI x1) → ey (mm_xt L xs) 2 257 24 lv [] (jhm b x) r)) : ∀ lv : jL, lv 0 = some (jR (some 76)) → lv 1 = some (jI x1) → lv 2 = some (jI x2) → lv 3 = some (jI x3) → ey (mm_xt L xs) 2 257 2 lv [] (jhm b m) r := by
  unfold jd_257_l2 at e
  exact jlp_ok2 (P := fun s => ∀ lv : jL, lv 0 = some (jR (some 76)) → lv 1 = some (jI x1) → lv 2 = some (jI x2) → lv 3 = some (jI s.1) → ey (mm_xt L xs) 2 257 2 lv [] (jhm b s.2) r) (Q := fun x => (∀ lv : jL, lv 0 = some (jR (some 76)) → lv 1 = some (jI x1) → ey (mm_xt L xs) 2 257 24 lv [] (jhm b x) r)) (fun s q hq hk => jk_257_s2 hb h6 hq hk) jfu _ x e K
set_option maxRecDepth 100000 in
theorem jk_257_s30 {L : Nat} {xs : Nat → Int32} {b : jH} (hb : 152 ≤ b.1) (h6 : b.1 ≤ 1000000) {x1 : Int} {x3 : Int} {m : jM} {o : ((Int × jM) ⊕ jM)} {r : mm_R} (e : jd_257_s30 x1 x3 m = some o) (K : jsm (fun s => (∀ lv : jL, lv 0 = some (jR (some 76)) → lv 1 = some (jI x1) → lv 3 = some (jI s.1) → ey (mm_xt L xs) 2 257 30 lv [] (jhm b s.2) r)) (fun x => (∀ lv : jL, ey (mm_xt L xs) 2 257 68 lv [] (jhm b x) r)) o) : ∀ lv : jL, lv 0 = some (jR (some 76)) → lv 1 = some (jI x1) → lv 3 = some (jI x3) → ey (mm_xt L xs) 2 257 30 lv [] (jhm b m) r := by
  intro lv f0 f1 f3
  unfold jd_257_s30 at e
  refine ey_iload_n (cd_257 rfl) f3 ?_
  refine ey_bipush (cd_257 rfl) (by decide) ?_
  by_cases q10 : 16 ≤ (jw x3)
  · rw [if_pos q10] at e
    refine ey_cge (cd_257 rfl) rfl rfl (show jw 16 = 16 from by decide) q10 ?_
    cases e
    exact K lv 
  · rw [if_neg q10] at e
    refine ey_nge (cd_257 rfl) rfl rfl (show jw 16 = 16 from by decide) q10 ?_
    refine ey_aload_n (cd_257 rfl) f0 ?_
    refine ey_getf_r (cd_257 rfl) mt_257 rfl rfl rfl (jhm_gr (q := 115) hb rfl) ?_
    refine ey_iload_n (cd_257 rfl) f1 ?_
    refine ey_iload_n (cd_257 rfl) f3 ?_
    refine ey_iconst (cd_257 rfl) ?_
    refine ey_irem (cd_257 rfl) (by decide) ?_
    refine ey_iload_n (cd_257 rfl) f3 ?_
    refine ey_iconst (cd_257 rfl) ?_
    refine ey_idiv (cd_257 rfl) (by decide) ?_
    refine ey_cs (s0 := [jI (jdiv x3 4), jI (jrem x3 4), jI x1, jR (some 115)]) (s1 := [jR (some 115)]) (st' := [jI (jd_253 x1 (jrem x3 4) (jdiv x3 4)), jR (some 115)]) (cd_257 rfl) mt_257 mt_253 rfl (by decide) rfl rfl (jsml_s rfl) rfl (ok_253 ) ?_
    refine ey_aload_n (cd_257 rfl) f0 ?_
    refine ey_getf_r (cd_257 rfl) mt_257 rfl rfl rfl (jhm_gr (q := 116) hb rfl) ?_
    refine ey_iload_n (cd_257 rfl) f3 ?_
    obtain ⟨v11, e12, e⟩ := jbind e
    refine ey_iald (cd_257 rfl) (jhm_ai hb h6 (by decide) rfl e12) ?_
    refine ey_bipush (cd_257 rfl) (by decide) ?_
    refine ey_iadd (cd_257 rfl) ?_
    refine ey_iconst (cd_257 rfl) ?_
    refine ey_ishr (cd_257 rfl) ?_
    obtain ⟨m13, e14, e⟩ := jbind e
    refine ey_iast (cd_257 rfl) (jhm_ta hb (by decide) rfl e14) ?_
    refine ey_iinc (cd_257 rfl) mt_257 rfl f3 ?_
    refine ey_goto (cd_257 rfl) rfl ?_
    cases e
    exact K (jup lv 3 (jI (x3 + 1))) f0 f1 rfl
theorem jk_257_l30 {L : Nat} {xs : Nat → Int32} {b : jH} (hb : 152 ≤ b.1) (h6 : b.1 ≤ 1000000) {x1 : Int} {x3 : Int} {m : jM} {x : jM} {r : mm_R} (e : jd_257_l30 x1 x3 m = some x) (K : (∀ lv : jL, ey (mm_xt L xs) 2 257 68 lv [] (jhm b x) r)) : ∀ lv : jL, lv 0 = some (jR (some 76)) → lv 1 = some (jI x1) → lv 3 = some (jI x3) → ey (mm_xt L xs) 2 257 30 lv [] (jhm b m) r := by
  unfold jd_257_l30 at e
  exact jlp_ok2 (P := fun s => ∀ lv : jL, lv 0 = some (jR (some 76)) → lv 1 = some (jI x1) → lv 3 = some (jI s.1) → ey (mm_xt L xs) 2 257 30 lv [] (jhm b s.2) r) (Q := fun x => (∀ lv : jL, ey (mm_xt L xs) 2 257 68 lv [] (jhm b x) r)) (fun s q hq hk => jk_257_s30 hb h6 hq hk) jfu _ x e K
set_option maxRecDepth 100000 in
theorem ok_257 {L : Nat} {xs : Nat → Int32} {b : jH} (hb : 152 ≤ b.1) (h6 : b.1 ≤ 1000000) {p0 : Int} {p1 : Int} {m : jM} {o : jM} (e : jd_257 p0 p1 m = some o) : mm_Runs (mm_xt L xs) 3 257 ([jR (some 76), jI p0, jI p1].map jcv) (jaH (jhm b m)) (.inl (none, jaH (jhm b o))) := by
  refine ey_run0 _ mt_257 (jsl_s rfl) ?_
  unfold jd_257 at e
  refine ey_iconst (cd_257 rfl) ?_
  refine ey_istore_n (cd_257 rfl) mt_257 rfl ?_
  obtain ⟨x6, e7, e⟩ := jbind e
  refine jk_257_l2 hb h6 e7 ?_ (jup (jlf (jla 0 [jR (some 76), jI p0, jI p1])) 3 (jI 0)) rfl rfl (jup_pi (lv := (jlf (jla 0 [jR (some 76), jI p0, jI p1]))) (j := 2) (v := jI 0) (z := p1) rfl) rfl
  intro lv g0 g1
  refine ey_aload_n (cd_257 rfl) g0 ?_
  obtain ⟨m8, e9, e⟩ := jbind e
  refine ey_cv (s0 := [jR (some 76)]) (s1 := []) (st' := []) (cd_257 rfl) mt_257 mt_256 rfl rfl rfl (jhm_is hb) rfl (jsml_s rfl) rfl (ok_256 hb h6 e9) ?_
  refine ey_iconst (cd_257 rfl) ?_
  refine ey_istore_n (cd_257 rfl) mt_257 rfl ?_
  obtain ⟨x15, e16, e⟩ := jbind e
  refine jk_257_l30 hb h6 e16 ?_ (jup lv 3 (jI 0)) g0 g1 rfl
  intro lv 
  cases e
  exact ey_retv (cd_257 rfl) mt_257 rfl
theorem cd_258 {pc : Nat} {i : Instr × Nat} (h : mm_lk mm_c258 pc = some i) : mm_cd 258 pc = some i := h
theorem mt_258 : mm_MT 258 = (12, 8, none, 2, 0, []) := rfl
set_option maxRecDepth 100000 in
theorem jk_258_s2 {L : Nat} {xs : Nat → Int32} {b : jH} (hb : 152 ≤ b.1) (h6 : b.1 ≤ 1000000) {x1 : Int} {x2 : Int} {x3 : Int} {m : jM} {o : ((Int × jM) ⊕ jM)} {r : mm_R} (e : jd_258_s2 x1 x2 x3 m = some o) (K : jsm (fun s => (∀ lv : jL, lv 0 = some (jR (some 76)) → lv 1 = some (jI x1) → lv 2 = some (jI x2) → lv 3 = some (jI s.1) → ey (mm_xt L xs) 3 258 2 lv [] (jhm b s.2) r)) (fun x => (∀ lv : jL, lv 0 = some (jR (some 76)) → lv 1 = some (jI x1) → lv 2 = some (jI x2) → ey (mm_xt L xs) 3 258 21 lv [] (jhm b x) r)) o) : ∀ lv : jL, lv 0 = some (jR (some 76)) → lv 1 = some (jI x1) → lv 2 = some (jI x2) → lv 3 = some (jI x3) → ey (mm_xt L xs) 3 258 2 lv [] (jhm b m) r := by
  intro lv f0 f1 f2 f3
  unfold jd_258_s2 at e
  refine ey_iload_n (cd_258 rfl) f3 ?_
  refine ey_bipush (cd_258 rfl) (by decide) ?_
  by_cases q1 : 16 ≤ (jw x3)
  · rw [if_pos q1] at e
    refine ey_cge (cd_258 rfl) rfl rfl (show jw 16 = 16 from by decide) q1 ?_
    cases e
    exact K lv f0 f1 f2
  · rw [if_neg q1] at e
    refine ey_nge (cd_258 rfl) rfl rfl (show jw 16 = 16 from by decide) q1 ?_
    refine ey_aload_n (cd_258 rfl) f0 ?_
    refine ey_getf_r (cd_258 rfl) mt_258 rfl rfl rfl (jhm_gr (q := 116) hb rfl) ?_
    refine ey_iload_n (cd_258 rfl) f3 ?_
    refine ey_iconst (cd_258 rfl) ?_
    obtain ⟨m2, e3, e⟩ := jbind e
    refine ey_iast (cd_258 rfl) (jhm_ta hb (by decide) rfl e3) ?_
    refine ey_iinc (cd_258 rfl) mt_258 rfl f3 ?_
    refine ey_goto (cd_258 rfl) rfl ?_
    cases e
    exact K (jup lv 3 (jI (x3 + 1))) f0 f1 (jup_pi (lv := lv) (j := 2) (v := jI (x3 + 1)) (z := x2) f2) rfl
theorem jk_258_l2 {L : Nat} {xs : Nat → Int32} {b : jH} (hb : 152 ≤ b.1) (h6 : b.1 ≤ 1000000) {x1 : Int} {x2 : Int} {x3 : Int} {m : jM} {x : jM} {r : mm_R} (e : jd_258_l2 x1 x2 x3 m = some x) (K : (∀ lv : jL, lv 0 = some (jR (some 76)) → lv 1 = some (jI x1) → lv 2 = some (jI x2) → ey (mm_xt L xs) 3 258 21 lv [] (jhm b x) r)) : ∀ lv : jL, lv 0 = some (jR (some 76)) → lv 1 = some (jI x1) → lv 2 = some (jI x2) → lv 3 = some (jI x3) → ey (mm_xt L xs) 3 258 2 lv [] (jhm b m) r := by
  unfold jd_258_l2 at e
  exact jlp_ok2 (P := fun s => ∀ lv : jL, lv 0 = some (jR (some 76)) → lv 1 = some (jI x1) → lv 2 = some (jI x2) → lv 3 = some (jI s.1) → ey (mm_xt L xs) 3 258 2 lv [] (jhm b s.2) r) (Q := fun x => (∀ lv : jL, lv 0 = some (jR (some 76)) → lv 1 = some (jI x1) → lv 2 = some (jI x2) → ey (mm_xt L xs) 3 258 21 lv [] (jhm b x) r)) (fun s q hq hk => jk_258_s2 hb h6 hq hk) jfu _ x e K
set_option maxRecDepth 100000 in
theorem jk_258_b143 {L : Nat} {xs : Nat → Int32} {b : jH} (hb : 152 ≤ b.1) (h6 : b.1 ≤ 1000000) {x1 : Int} {x2 : Int} {x3 : Int} {x4 : Int} {x5 : Int} {x6 : Int} {x7 : Int} {m : jM} {o : ((Int × Int × jM) ⊕ (jM ⊕ jM))} {r : mm_R} (e : jd_258_b143 x1 x2 x3 x4 x5 x6 x7 m = some o) (K : jsm (fun s => (∀ lv : jL, lv 0 = some (jR (some 76)) → lv 1 = some (jI x1) → lv 2 = some (jI x2) → lv 3 = some (jI x3) → lv 4 = some (jI s.1) → lv 5 = some (jI s.2.1) → ey (mm_xt L xs) 3 258 50 lv [] (jhm b s.2.2) r)) (fun x => (jsm (fun y => (∀ lv : jL, ey (mm_xt L xs) 3 258 150 lv [] (jhm b y) r)) (fun z => (∀ lv : jL, lv 0 = some (jR (some 76)) → lv 1 = some (jI x1) → lv 2 = some (jI x2) → ey (mm_xt L xs) 3 258 188 lv [] (jhm b z) r)) x)) o) : ∀ lv : jL, lv 0 = some (jR (some 76)) → lv 1 = some (jI x1) → lv 2 = some (jI x2) → lv 3 = some (jI x3) → lv 4 = some (jI x4) → lv 5 = some (jI x5) → lv 6 = some (jI x6) → lv 7 = some (jI x7) → ey (mm_xt L xs) 3 258 143 lv [] (jhm b m) r := by
  intro lv f0 f1 f2 f3 f4 f5 f6 f7
  unfold jd_258_b143 at e
  refine ey_aload_n (cd_258 rfl) f0 ?_
  refine ey_getf_i (z := (m 76 52)) (cd_258 rfl) mt_258 rfl rfl rfl (jhm_gi hb 52) ?_
  by_cases q23 : (jw (m 76 52)) ≤ 0
  · rw [if_pos q23] at e
    refine ey_zle (cd_258 rfl) rfl rfl q23 ?_
    refine ey_iload (cd_258 rfl) f4 ?_
    refine ey_iconst (cd_258 rfl) ?_
    refine ey_iload (cd_258 rfl) f6 ?_
    refine ey_iadd (cd_258 rfl) ?_
    refine ey_iadd (cd_258 rfl) ?_
    refine ey_istore (cd_258 rfl) mt_258 rfl ?_
    refine ey_aload_n (cd_258 rfl) f0 ?_
    refine ey_getf_r (cd_258 rfl) mt_258 rfl rfl rfl (jhm_gr (q := 116) hb rfl) ?_
    refine ey_iload (cd_258 rfl) rfl ?_
    refine ey_cs (s0 := [jI (x4 + (1 + x6)), jR (some 116)]) (s1 := [jR (some 116)]) (st' := [jI (jd_254 (x4 + (1 + x6))), jR (some 116)]) (cd_258 rfl) mt_258 mt_254 rfl (by decide) rfl rfl (jsml_s rfl) rfl (mm_Runs.up (d := 1) (by decide) (ok_254 )) ?_
    refine ey_iload (cd_258 rfl) f7 ?_
    obtain ⟨m24, e25, e⟩ := jbind e
    refine ey_iast (cd_258 rfl) (jhm_ta hb (by decide) rfl e25) ?_
    refine ey_aload_n (cd_258 rfl) f0 ?_
    refine ey_dup (cd_258 rfl) rfl ?_
    refine ey_getf_i (z := (m24 76 59)) (cd_258 rfl) mt_258 rfl rfl rfl (jhm_gi hb 59) ?_
    refine ey_iconst (cd_258 rfl) ?_
    refine ey_iadd (cd_258 rfl) ?_
    obtain ⟨m26, e27, e⟩ := jbind e
    refine ey_putf_i (cd_258 rfl) mt_258 rfl rfl rfl (jhm_pi' (k := 59) hb e27) ?_
    refine ey_iinc (cd_258 rfl) mt_258 rfl f5 ?_
    refine ey_goto (cd_258 rfl) rfl ?_
    cases e
    exact K (jup (jup lv 4 (jI (x4 + (1 + x6)))) 5 (jI (x5 + 1))) f0 f1 f2 (jup_o rfl (jup_pi (lv := lv) (j := 3) (v := jI (x4 + (1 + x6))) (z := x3) f3)) (jup_pi (lv := (jup lv 4 (jI (x4 + (1 + x6))))) (j := 4) (v := jI (x5 + 1)) (z := (x4 + (1 + x6))) rfl) rfl
  · rw [if_neg q23] at e
    refine ey_yle (cd_258 rfl) rfl rfl q23 ?_
    cases e
    exact K lv 
set_option maxRecDepth 100000 in
theorem jk_258_b138 {L : Nat} {xs : Nat → Int32} {b : jH} (hb : 152 ≤ b.1) (h6 : b.1 ≤ 1000000) {x1 : Int} {x2 : Int} {x3 : Int} {x4 : Int} {x5 : Int} {x6 : Int} {x7 : Int} {m : jM} {o : ((Int × Int × jM) ⊕ (jM ⊕ jM))} {r : mm_R} (e : jd_258_b138 x1 x2 x3 x4 x5 x6 x7 m = some o) (K : jsm (fun s => (∀ lv : jL, lv 0 = some (jR (some 76)) → lv 1 = some (jI x1) → lv 2 = some (jI x2) → lv 3 = some (jI x3) → lv 4 = some (jI s.1) → lv 5 = some (jI s.2.1) → ey (mm_xt L xs) 3 258 50 lv [] (jhm b s.2.2) r)) (fun x => (jsm (fun y => (∀ lv : jL, ey (mm_xt L xs) 3 258 150 lv [] (jhm b y) r)) (fun z => (∀ lv : jL, lv 0 = some (jR (some 76)) → lv 1 = some (jI x1) → lv 2 = some (jI x2) → ey (mm_xt L xs) 3 258 188 lv [] (jhm b z) r)) x)) o) : ∀ lv : jL, lv 0 = some (jR (some 76)) → lv 1 = some (jI x1) → lv 2 = some (jI x2) → lv 3 = some (jI x3) → lv 4 = some (jI x4) → lv 5 = some (jI x5) → lv 6 = some (jI x6) → lv 7 = some (jI x7) → ey (mm_xt L xs) 3 258 138 lv [] (jhm b m) r := by
  intro lv f0 f1 f2 f3 f4 f5 f6 f7
  unfold jd_258_b138 at e
  refine ey_aload_n (cd_258 rfl) f0 ?_
  refine ey_iconst (cd_258 rfl) ?_
  obtain ⟨m21, e22, e⟩ := jbind e
  refine ey_cv (s0 := [jI 5, jR (some 76)]) (s1 := []) (st' := []) (cd_258 rfl) mt_258 mt_231 rfl rfl rfl (jhm_is hb) rfl (jsml_s rfl) rfl (mm_Runs.up (d := 1) (by decide) (ok_231 hb h6 e22)) ?_
  exact jk_258_b143 hb h6 e K lv f0 f1 f2 f3 f4 f5 f6 f7
set_option maxRecDepth 100000 in
theorem jk_258_b108 {L : Nat} {xs : Nat → Int32} {b : jH} (hb : 152 ≤ b.1) (h6 : b.1 ≤ 1000000) {x1 : Int} {x2 : Int} {x3 : Int} {x4 : Int} {x5 : Int} {x6 : Int} {y0 : Int} {m : jM} {o : ((Int × Int × jM) ⊕ (jM ⊕ jM))} {r : mm_R} (e : jd_258_b108 x1 x2 x3 x4 x5 x6 y0 m = some o) (K : jsm (fun s => (∀ lv : jL, lv 0 = some (jR (some 76)) → lv 1 = some (jI x1) → lv 2 = some (jI x2) → lv 3 = some (jI x3) → lv 4 = some (jI s.1) → lv 5 = some (jI s.2.1) → ey (mm_xt L xs) 3 258 50 lv [] (jhm b s.2.2) r)) (fun x => (jsm (fun y => (∀ lv : jL, ey (mm_xt L xs) 3 258 150 lv [] (jhm b y) r)) (fun z => (∀ lv : jL, lv 0 = some (jR (some 76)) → lv 1 = some (jI x1) → lv 2 = some (jI x2) → ey (mm_xt L xs) 3 258 188 lv [] (jhm b z) r)) x)) o) : ∀ lv : jL, lv 0 = some (jR (some 76)) → lv 1 = some (jI x1) → lv 2 = some (jI x2) → lv 3 = some (jI x3) → lv 4 = some (jI x4) → lv 5 = some (jI x5) → lv 6 = some (jI x6) → ey (mm_xt L xs) 3 258 108 lv [jI y0] (jhm b m) r := by
  intro lv f0 f1 f2 f3 f4 f5 f6
  unfold jd_258_b108 at e
  refine ey_istore (cd_258 rfl) mt_258 rfl ?_
  refine ey_aload_n (cd_258 rfl) f0 ?_
  refine ey_getf_i (z := (m 76 52)) (cd_258 rfl) mt_258 rfl rfl rfl (jhm_gi hb 52) ?_
  by_cases q19 : (jw (m 76 52)) = 0
  · rw [if_pos q19] at e
    refine ey_yne (cd_258 rfl) rfl rfl (fun w => w q19) ?_
    refine ey_iload (cd_258 rfl) rfl ?_
    by_cases q20 : (jw y0) = 0
    · rw [if_pos q20] at e
      refine ey_zeq (cd_258 rfl) rfl rfl q20 ?_
      exact jk_258_b138 hb h6 e K (jup lv 7 (jI y0)) f0 f1 f2 f3 f4 f5 (jup_pi (lv := lv) (j := 6) (v := jI y0) (z := x6) f6) rfl
    · rw [if_neg q20] at e
      refine ey_yeq (cd_258 rfl) rfl rfl q20 ?_
      refine ey_iload (cd_258 rfl) rfl ?_
      refine ey_sipush (cd_258 rfl) (by decide) ?_
      by_cases q28 : (jw y0) < (-4095)
      · rw [if_pos q28] at e
        refine ey_clt (cd_258 rfl) rfl rfl (show jw (-4095) = (-4095) from by decide) q28 ?_
        exact jk_258_b138 hb h6 e K (jup lv 7 (jI y0)) f0 f1 f2 f3 f4 f5 (jup_pi (lv := lv) (j := 6) (v := jI y0) (z := x6) f6) rfl
      · rw [if_neg q28] at e
        refine ey_nlt (cd_258 rfl) rfl rfl (show jw (-4095) = (-4095) from by decide) q28 ?_
        refine ey_iload (cd_258 rfl) rfl ?_
        refine ey_sipush (cd_258 rfl) (by decide) ?_
        by_cases q29 : (jw y0) ≤ 4095
        · rw [if_pos q29] at e
          refine ey_cle (cd_258 rfl) rfl rfl (show jw 4095 = 4095 from by decide) q29 ?_
          exact jk_258_b143 hb h6 e K (jup lv 7 (jI y0)) f0 f1 f2 f3 f4 f5 (jup_pi (lv := lv) (j := 6) (v := jI y0) (z := x6) f6) rfl
        · rw [if_neg q29] at e
          refine ey_nle (cd_258 rfl) rfl rfl (show jw 4095 = 4095 from by decide) q29 ?_
          exact jk_258_b138 hb h6 e K (jup lv 7 (jI y0)) f0 f1 f2 f3 f4 f5 (jup_pi (lv := lv) (j := 6) (v := jI y0) (z := x6) f6) rfl
  · rw [if_neg q19] at e
    refine ey_zne (cd_258 rfl) rfl rfl q19 ?_
    exact jk_258_b143 hb h6 e K (jup lv 7 (jI y0)) f0 f1 f2 f3 f4 f5 (jup_pi (lv := lv) (j := 6) (v := jI y0) (z := x6) f6) rfl
set_option maxRecDepth 100000 in
theorem jk_258_b93 {L : Nat} {xs : Nat → Int32} {b : jH} (hb : 152 ≤ b.1) (h6 : b.1 ≤ 1000000) {x1 : Int} {x2 : Int} {x3 : Int} {x4 : Int} {x5 : Int} {x6 : Int} {m : jM} {o : ((Int × Int × jM) ⊕ (jM ⊕ jM))} {r : mm_R} (e : jd_258_b93 x1 x2 x3 x4 x5 x6 m = some o) (K : jsm (fun s => (∀ lv : jL, lv 0 = some (jR (some 76)) → lv 1 = some (jI x1) → lv 2 = some (jI x2) → lv 3 = some (jI x3) → lv 4 = some (jI s.1) → lv 5 = some (jI s.2.1) → ey (mm_xt L xs) 3 258 50 lv [] (jhm b s.2.2) r)) (fun x => (jsm (fun y => (∀ lv : jL, ey (mm_xt L xs) 3 258 150 lv [] (jhm b y) r)) (fun z => (∀ lv : jL, lv 0 = some (jR (some 76)) → lv 1 = some (jI x1) → lv 2 = some (jI x2) → ey (mm_xt L xs) 3 258 188 lv [] (jhm b z) r)) x)) o) : ∀ lv : jL, lv 0 = some (jR (some 76)) → lv 1 = some (jI x1) → lv 2 = some (jI x2) → lv 3 = some (jI x3) → lv 4 = some (jI x4) → lv 5 = some (jI x5) → lv 6 = some (jI x6) → ey (mm_xt L xs) 3 258 93 lv [] (jhm b m) r := by
  intro lv f0 f1 f2 f3 f4 f5 f6
  unfold jd_258_b93 at e
  refine ey_aload_n (cd_258 rfl) f0 ?_
  refine ey_getf_i (z := (m 76 52)) (cd_258 rfl) mt_258 rfl rfl rfl (jhm_gi hb 52) ?_
  by_cases q16 : (jw (m 76 52)) = 0
  · rw [if_pos q16] at e
    refine ey_yne (cd_258 rfl) rfl rfl (fun w => w q16) ?_
    refine ey_aload_n (cd_258 rfl) f0 ?_
    obtain ⟨q17, e18, e⟩ := jbind e
    refine ey_cv (s0 := [jR (some 76)]) (s1 := []) (st' := [jI q17.1]) (cd_258 rfl) mt_258 mt_230 rfl rfl rfl (jhm_is hb) rfl (jsml_s rfl) rfl (ok_230 hb h6 e18) ?_
    refine ey_goto (cd_258 rfl) rfl ?_
    exact jk_258_b108 hb h6 e K lv f0 f1 f2 f3 f4 f5 f6
  · rw [if_neg q16] at e
    refine ey_zne (cd_258 rfl) rfl rfl q16 ?_
    refine ey_iconst (cd_258 rfl) ?_
    exact jk_258_b108 hb h6 e K lv f0 f1 f2 f3 f4 f5 f6
set_option maxRecDepth 100000 in
theorem jk_258_s50 {L : Nat} {xs : Nat → Int32} {b : jH} (hb : 152 ≤ b.1) (h6 : b.1 ≤ 1000000) {x1 : Int} {x2 : Int} {x3 : Int} {x4 : Int} {x5 : Int} {m : jM} {o : ((Int × Int × jM) ⊕ (jM ⊕ jM))} {r : mm_R} (e : jd_258_s50 x1 x2 x3 x4 x5 m = some o) (K : jsm (fun s => (∀ lv : jL, lv 0 = some (jR (some 76)) → lv 1 = some (jI x1) → lv 2 = some (jI x2) → lv 3 = some (jI x3) → lv 4 = some (jI s.1) → lv 5 = some (jI s.2.1) → ey (mm_xt L xs) 3 258 50 lv [] (jhm b s.2.2) r)) (fun x => (jsm (fun y => (∀ lv : jL, ey (mm_xt L xs) 3 258 150 lv [] (jhm b y) r)) (fun z => (∀ lv : jL, lv 0 = some (jR (some 76)) → lv 1 = some (jI x1) → lv 2 = some (jI x2) → ey (mm_xt L xs) 3 258 188 lv [] (jhm b z) r)) x)) o) : ∀ lv : jL, lv 0 = some (jR (some 76)) → lv 1 = some (jI x1) → lv 2 = some (jI x2) → lv 3 = some (jI x3) → lv 4 = some (jI x4) → lv 5 = some (jI x5) → ey (mm_xt L xs) 3 258 50 lv [] (jhm b m) r := by
  intro lv f0 f1 f2 f3 f4 f5
  unfold jd_258_s50 at e
  refine ey_iload (cd_258 rfl) f5 ?_
  refine ey_iload_n (cd_258 rfl) f3 ?_
  by_cases q10 : (jw x3) ≤ (jw x5)
  · rw [if_pos q10] at e
    refine ey_cge (cd_258 rfl) rfl rfl rfl q10 ?_
    cases e
    exact K lv f0 f1 f2
  · rw [if_neg q10] at e
    refine ey_nge (cd_258 rfl) rfl rfl rfl q10 ?_
    refine ey_aload_n (cd_258 rfl) f0 ?_
    refine ey_getf_i (z := (m 76 52)) (cd_258 rfl) mt_258 rfl rfl rfl (jhm_gi hb 52) ?_
    by_cases q11 : (jw (m 76 52)) = 0
    · rw [if_pos q11] at e
      refine ey_yne (cd_258 rfl) rfl rfl (fun w => w q11) ?_
      refine ey_aload_n (cd_258 rfl) f0 ?_
      obtain ⟨q12, e13, e⟩ := jbind e
      refine ey_cv (s0 := [jR (some 76)]) (s1 := []) (st' := [jI q12.1]) (cd_258 rfl) mt_258 mt_229 rfl rfl rfl (jhm_is hb) rfl (jsml_s rfl) rfl (mm_Runs.up (d := 2) (by decide) (ok_229 hb h6 e13)) ?_
      refine ey_istore (cd_258 rfl) mt_258 rfl ?_
      refine ey_aload_n (cd_258 rfl) f0 ?_
      refine ey_getf_i (z := (q12.2 76 52)) (cd_258 rfl) mt_258 rfl rfl rfl (jhm_gi hb 52) ?_
      by_cases q14 : (jw (q12.2 76 52)) = 0
      · rw [if_pos q14] at e
        refine ey_yne (cd_258 rfl) rfl rfl (fun w => w q14) ?_
        refine ey_iload (cd_258 rfl) f4 ?_
        refine ey_iconst (cd_258 rfl) ?_
        refine ey_iadd (cd_258 rfl) ?_
        refine ey_iload (cd_258 rfl) rfl ?_
        refine ey_iadd (cd_258 rfl) ?_
        refine ey_bipush (cd_258 rfl) (by decide) ?_
        by_cases q15 : (jw ((x4 + 1) + q12.1)) ≤ 15
        · rw [if_pos q15] at e
          refine ey_cle (cd_258 rfl) rfl rfl (show jw 15 = 15 from by decide) q15 ?_
          exact jk_258_b93 hb h6 e K (jup lv 6 (jI q12.1)) f0 f1 f2 f3 f4 (jup_pi (lv := lv) (j := 5) (v := jI q12.1) (z := x5) f5) rfl
        · rw [if_neg q15] at e
          refine ey_nle (cd_258 rfl) rfl rfl (show jw 15 = 15 from by decide) q15 ?_
          refine ey_aload_n (cd_258 rfl) f0 ?_
          refine ey_iconst (cd_258 rfl) ?_
          obtain ⟨m30, e31, e⟩ := jbind e
          refine ey_cv (s0 := [jI 4, jR (some 76)]) (s1 := []) (st' := []) (cd_258 rfl) mt_258 mt_231 rfl rfl rfl (jhm_is hb) rfl (jsml_s rfl) rfl (mm_Runs.up (d := 1) (by decide) (ok_231 hb h6 e31)) ?_
          exact jk_258_b93 hb h6 e K (jup lv 6 (jI q12.1)) f0 f1 f2 f3 f4 (jup_pi (lv := lv) (j := 5) (v := jI q12.1) (z := x5) f5) rfl
      · rw [if_neg q14] at e
        refine ey_zne (cd_258 rfl) rfl rfl q14 ?_
        exact jk_258_b93 hb h6 e K (jup lv 6 (jI q12.1)) f0 f1 f2 f3 f4 (jup_pi (lv := lv) (j := 5) (v := jI q12.1) (z := x5) f5) rfl
    · rw [if_neg q11] at e
      refine ey_zne (cd_258 rfl) rfl rfl q11 ?_
      cases e
      exact K lv f0 f1 f2
theorem jk_258_l50 {L : Nat} {xs : Nat → Int32} {b : jH} (hb : 152 ≤ b.1) (h6 : b.1 ≤ 1000000) {x1 : Int} {x2 : Int} {x3 : Int} {x4 : Int} {x5 : Int} {m : jM} {x : (jM ⊕ jM)} {r : mm_R} (e : jd_258_l50 x1 x2 x3 x4 x5 m = some x) (K : (jsm (fun y => (∀ lv : jL, ey (mm_xt L xs) 3 258 150 lv [] (jhm b y) r)) (fun z => (∀ lv : jL, lv 0 = some (jR (some 76)) → lv 1 = some (jI x1) → lv 2 = some (jI x2) → ey (mm_xt L xs) 3 258 188 lv [] (jhm b z) r)) x)) : ∀ lv : jL, lv 0 = some (jR (some 76)) → lv 1 = some (jI x1) → lv 2 = some (jI x2) → lv 3 = some (jI x3) → lv 4 = some (jI x4) → lv 5 = some (jI x5) → ey (mm_xt L xs) 3 258 50 lv [] (jhm b m) r := by
  unfold jd_258_l50 at e
  exact jlp_ok2 (P := fun s => ∀ lv : jL, lv 0 = some (jR (some 76)) → lv 1 = some (jI x1) → lv 2 = some (jI x2) → lv 3 = some (jI x3) → lv 4 = some (jI s.1) → lv 5 = some (jI s.2.1) → ey (mm_xt L xs) 3 258 50 lv [] (jhm b s.2.2) r) (Q := fun x => (jsm (fun y => (∀ lv : jL, ey (mm_xt L xs) 3 258 150 lv [] (jhm b y) r)) (fun z => (∀ lv : jL, lv 0 = some (jR (some 76)) → lv 1 = some (jI x1) → lv 2 = some (jI x2) → ey (mm_xt L xs) 3 258 188 lv [] (jhm b z) r)) x)) (fun s q hq hk => jk_258_s50 hb h6 hq hk) jfu _ x e K
set_option maxRecDepth 100000 in
theorem jk_258_b201 {L : Nat} {xs : Nat → Int32} {b : jH} (hb : 152 ≤ b.1) (h6 : b.1 ≤ 1000000)  {m : jM} {o : jM} (e : jd_258_b201  m = some o) : ∀ lv : jL, ey (mm_xt L xs) 3 258 201 lv [] (jhm b m) (.inl (none, jaH (jhm b o))) := by
  intro lv 
  unfold jd_258_b201 at e
  cases e
  exact ey_retv (cd_258 rfl) mt_258 rfl
set_option maxRecDepth 100000 in
theorem jk_258_b44 {L : Nat} {xs : Nat → Int32} {b : jH} (hb : 152 ≤ b.1) (h6 : b.1 ≤ 1000000) {x1 : Int} {x2 : Int} {x3 : Int} {m : jM} {o : jM} (e : jd_258_b44 x1 x2 x3 m = some o) : ∀ lv : jL, lv 0 = some (jR (some 76)) → lv 1 = some (jI x1) → lv 2 = some (jI x2) → lv 3 = some (jI x3) → ey (mm_xt L xs) 3 258 44 lv [] (jhm b m) (.inl (none, jaH (jhm b o))) := by
  intro lv f0 f1 f2 f3
  unfold jd_258_b44 at e
  refine ey_iconst (cd_258 rfl) ?_
  refine ey_istore (cd_258 rfl) mt_258 rfl ?_
  refine ey_iconst (cd_258 rfl) ?_
  refine ey_istore (cd_258 rfl) mt_258 rfl ?_
  obtain ⟨x32, e33, e⟩ := jbind e
  refine jk_258_l50 hb h6 e33 ?_ (jup (jup lv 4 (jI (-1))) 5 (jI 0)) f0 f1 f2 (jup_o rfl (jup_pi (lv := lv) (j := 3) (v := jI (-1)) (z := x3) f3)) (jup_pi (lv := (jup lv 4 (jI (-1)))) (j := 4) (v := jI 0) (z := (-1)) rfl) rfl
  cases x32 with
  | inl y34 =>
    replace e : (some y34 : Option jM) = some o := e
    intro lv 
    cases e
    exact ey_retv (cd_258 rfl) mt_258 rfl
  | inr y35 =>
    replace e : ((if (jw (y35 76 52)) = 0 then ((jd_257 x1 x2 y35).bind fun m37 => jd_258_b201  m37) else jd_258_b201  y35) : Option jM) = some o := e
    intro lv g0 g1 g2
    refine ey_aload_n (cd_258 rfl) g0 ?_
    refine ey_getf_i (z := (y35 76 52)) (cd_258 rfl) mt_258 rfl rfl rfl (jhm_gi hb 52) ?_
    by_cases q36 : (jw (y35 76 52)) = 0
    · rw [if_pos q36] at e
      refine ey_yne (cd_258 rfl) rfl rfl (fun w => w q36) ?_
      refine ey_aload_n (cd_258 rfl) g0 ?_
      refine ey_iload_n (cd_258 rfl) g1 ?_
      refine ey_iload_n (cd_258 rfl) g2 ?_
      obtain ⟨m37, e38, e⟩ := jbind e
      refine ey_cv (s0 := [jI x2, jI x1, jR (some 76)]) (s1 := []) (st' := []) (cd_258 rfl) mt_258 mt_257 rfl rfl rfl (jhm_is hb) rfl (jsml_s rfl) rfl (ok_257 hb h6 e38) ?_
      exact jk_258_b201 hb h6 e lv 
    · rw [if_neg q36] at e
      refine ey_zne (cd_258 rfl) rfl rfl q36 ?_
      exact jk_258_b201 hb h6 e lv 
set_option maxRecDepth 100000 in
theorem ok_258 {L : Nat} {xs : Nat → Int32} {b : jH} (hb : 152 ≤ b.1) (h6 : b.1 ≤ 1000000) {p0 : Int} {p1 : Int} {m : jM} {o : jM} (e : jd_258 p0 p1 m = some o) : mm_Runs (mm_xt L xs) 4 258 ([jR (some 76), jI p0, jI p1].map jcv) (jaH (jhm b m)) (.inl (none, jaH (jhm b o))) := by
  refine ey_run0 _ mt_258 (jsl_s rfl) ?_
  unfold jd_258 at e
  refine ey_iconst (cd_258 rfl) ?_
  refine ey_istore_n (cd_258 rfl) mt_258 rfl ?_
  obtain ⟨x4, e5, e⟩ := jbind e
  refine jk_258_l2 hb h6 e5 ?_ (jup (jlf (jla 0 [jR (some 76), jI p0, jI p1])) 3 (jI 0)) rfl rfl (jup_pi (lv := (jlf (jla 0 [jR (some 76), jI p0, jI p1]))) (j := 2) (v := jI 0) (z := p1) rfl) rfl
  intro lv g0 g1 g2
  refine ey_aload_n (cd_258 rfl) g0 ?_
  obtain ⟨q6, e7, e⟩ := jbind e
  refine ey_cv (s0 := [jR (some 76)]) (s1 := []) (st' := [jI q6.1]) (cd_258 rfl) mt_258 mt_229 rfl rfl rfl (jhm_is hb) rfl (jsml_s rfl) rfl (mm_Runs.up (d := 2) (by decide) (ok_229 hb h6 e7)) ?_
  refine ey_istore_n (cd_258 rfl) mt_258 rfl ?_
  refine ey_aload_n (cd_258 rfl) g0 ?_
  refine ey_getf_i (z := (q6.2 76 52)) (cd_258 rfl) mt_258 rfl rfl rfl (jhm_gi hb 52) ?_
  by_cases q8 : (jw (q6.2 76 52)) = 0
  · rw [if_pos q8] at e
    refine ey_yne (cd_258 rfl) rfl rfl (fun w => w q8) ?_
    refine ey_iload_n (cd_258 rfl) rfl ?_
    refine ey_bipush (cd_258 rfl) (by decide) ?_
    by_cases q9 : (jw q6.1) ≤ 16
    · rw [if_pos q9] at e
      refine ey_cle (cd_258 rfl) rfl rfl (show jw 16 = 16 from by decide) q9 ?_
      exact jk_258_b44 hb h6 e (jup lv 3 (jI q6.1)) g0 g1 (jup_pi (lv := lv) (j := 2) (v := jI q6.1) (z := p1) g2) rfl
    · rw [if_neg q9] at e
      refine ey_nle (cd_258 rfl) rfl rfl (show jw 16 = 16 from by decide) q9 ?_
      refine ey_aload_n (cd_258 rfl) g0 ?_
      refine ey_iconst (cd_258 rfl) ?_
      obtain ⟨m39, e40, e⟩ := jbind e
      refine ey_cv (s0 := [jI 4, jR (some 76)]) (s1 := []) (st' := []) (cd_258 rfl) mt_258 mt_231 rfl rfl rfl (jhm_is hb) rfl (jsml_s rfl) rfl (mm_Runs.up (d := 1) (by decide) (ok_231 hb h6 e40)) ?_
      exact jk_258_b44 hb h6 e (jup lv 3 (jI q6.1)) g0 g1 (jup_pi (lv := lv) (j := 2) (v := jI q6.1) (z := p1) g2) rfl
  · rw [if_neg q8] at e
    refine ey_zne (cd_258 rfl) rfl rfl q8 ?_
    exact jk_258_b44 hb h6 e (jup lv 3 (jI q6.1)) g0 g1 (jup_pi (lv := lv) (j := 2) (v := jI q6.1) (z := p1) g2) rfl
theorem cd_259 {pc : Nat} {i : Instr × Nat} (h : mm_lk mm_c259 pc = some i) : mm_cd 259 pc = some i := h
theorem mt_259 : mm_MT 259 = (12, 4, some .int, 3, 0, []) := rfl
set_option maxRecDepth 100000 in
theorem ok_259 {L : Nat} {xs : Nat → Int32} {b : jH} (hb : 152 ≤ b.1) (h6 : b.1 ≤ 1000000) {p0 : Int} {p1 : Int} {p2 : Int} {m : jM} {o : Int} (e : jd_259 p0 p1 p2 m = some o) : mm_Runs (mm_xt L xs) 1 259 ([jR (some 76), jI p0, jI p1, jI p2].map jcv) (jaH (jhm b m)) (.inl (some (jcv (jI o)), jaH (jhm b m))) := by
  refine ey_run0 _ mt_259 (jsl_s rfl) ?_
  unfold jd_259 at e
  refine ey_aload_n (cd_259 rfl) rfl ?_
  refine ey_getf_r (cd_259 rfl) mt_259 rfl rfl rfl (jhm_gr (q := 111) hb rfl) ?_
  refine ey_bipush (cd_259 rfl) (by decide) ?_
  refine ey_iload_n (cd_259 rfl) rfl ?_
  refine ey_imul (cd_259 rfl) ?_
  refine ey_bipush (cd_259 rfl) (by decide) ?_
  refine ey_iload_n (cd_259 rfl) rfl ?_
  refine ey_imul (cd_259 rfl) ?_
  refine ey_iadd (cd_259 rfl) ?_
  refine ey_iload_n (cd_259 rfl) rfl ?_
  refine ey_iadd (cd_259 rfl) ?_
  obtain ⟨v1, e2, e⟩ := jbind e
  refine ey_iald (cd_259 rfl) (jhm_ai hb h6 (by decide) rfl e2) ?_
  cases e
  exact ey_reti (cd_259 rfl) mt_259 rfl
